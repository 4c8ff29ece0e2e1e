/** Boundaries that the promises 20 to 27 name: waiting and invoices. */
final class BoundariesOfMoney {
    private static final int NONE = Crossdockery.NONE;
    private static final int OWN = Crossdockery.OWN;
    private static final String NO_LORRY = "Throws IndexOutOfBoundsException if there is no such lorry";
    private static final String NO_LORRY_FOR_EITHER = NO_LORRY + ", for either";

    private BoundariesOfMoney() {
    }

    static void run() {
        waited();
        ownMinutes();
        debtor();
        debtorRefused();
        invoice();
        invoiceRefused();
        invoiceAnew();
        invoiceAnewRefused();
        balance();
        meanWait();
        dockShare();
    }

    /** Lorry 0 is expected for the minute 8; lorry 1 waits for it at a door with power; 2 and 3 are behind that. */
    private static Crossdockery waitingDock() {
        Crossdockery dock = new Crossdockery();
        dock.addLorry(true, 8, 11);
        dock.addLorry(false, 0, 20);
        dock.addLorry(true, 2, 3);
        dock.addLorry(false, 0, 5);
        dock.addTransfer(0, 1, 4);
        dock.addTransfer(2, 3, 4);
        Docks.gangAt(dock, 2, 1);
        Docks.arriveAt(dock, 1, 1);
        Docks.arriveAt(dock, 2, 1);
        Docks.arriveAt(dock, 3, 1);
        return dock;
    }

    // ---- promises 20 and 21

    private static void waited() {
        String here = "Promise 20";
        Doc.says(here, "Returns for how many minutes a lorry has waited.");
        Doc.says(here, "lorry: the number of the lorry");
        Doc.says(here, "Returns the number of minutes.");
        Crossdockery dock = waitingDock();
        for (int minute = 0; minute < 12; minute++) {
            Check.same("expected", dock.waited(0), 0);
            Check.same("at the door", dock.waited(1), minute);
            Check.same("in the yard", dock.waited(2), minute);
            Check.same("behind it", dock.waited(3), minute);
            dock.pass(1);
        }
        Docks.passTo(dock, 2000);
        Check.same("all minutes", dock.waited(3), 2000);
        Doc.says(here, NO_LORRY);
        for (int lorry : Refused.outside(0, Docks.BUSY_LORRIES - 1)) {
            Refused.call("lorry " + lorry, Docks::busy, Check.INDEX, busy -> busy.waited(lorry));
        }
        Refused.call("no lorries", Crossdockery::new, Check.INDEX, empty -> empty.waited(0));
        Refused.call("lorry 8", Docks::full, Check.INDEX, full -> full.waited(8));
        Check.same("the last of eight", Docks.full().waited(7), 0);
    }

    private static void ownMinutes() {
        String here = "Promise 21";
        Doc.says(here, "Returns for how many of these minutes nobody owes anything.");
        Doc.says(here, "lorry: the number of the lorry");
        Doc.says(here, "Returns the number of minutes.");
        Crossdockery dock = waitingDock();
        for (int minute = 0; minute < 12; minute++) {
            Check.same("expected", dock.ownMinutes(0), 0);
            Check.same("free, and while nobody is due", dock.ownMinutes(1), Math.min(minute, 8));
            Check.same("before its planned minute", dock.ownMinutes(2), Math.min(minute, 2));
            Check.same("free", dock.ownMinutes(3), Math.min(minute, 5));
            dock.pass(1);
        }
        Crossdockery all = new Crossdockery();
        all.addLorry(true, 1999, 1);
        all.addLorry(false, 0, 1);
        all.addTransfer(0, 1, 1);
        Docks.gangAt(all, 1, 0);
        Docks.arriveAt(all, 1, 0);
        Docks.passTo(all, 1999);
        Check.same("all before the last", all.ownMinutes(1), 1999);
        all.pass(1);
        Check.same("not the last", all.ownMinutes(1), 1999);
        Doc.says(here, NO_LORRY);
        for (int lorry : Refused.outside(0, Docks.BUSY_LORRIES - 1)) {
            Refused.call("lorry " + lorry, Docks::busy, Check.INDEX, busy -> busy.ownMinutes(lorry));
        }
        Refused.call("no lorries", Crossdockery::new, Check.INDEX, empty -> empty.ownMinutes(0));
        Refused.call("lorry 8", Docks::full, Check.INDEX, full -> full.ownMinutes(8));
        Check.same("the last of eight", Docks.full().ownMinutes(7), 0);
    }

    // ---- promise 22

    private static void debtor() {
        String here = "Promise 22";
        Doc.says(here, "Returns who owes the last minute that passed to a lorry.");
        Doc.says(here, "lorry: the number of the lorry");
        Doc.says(here, "Returns the number of a lorry, NONE for the dock, or OWN.");
        Crossdockery dock = waitingDock();
        for (int minute = 0; minute < 11; minute++) {
            dock.pass(1);
            int ahead = minute < 8 ? 1 : 0;
            Check.same("at the door in " + minute, dock.debtor(1), minute < 8 ? OWN : 0);
            Check.same("in the yard in " + minute, dock.debtor(2), minute < 2 ? OWN : ahead);
            Check.same("behind it in " + minute, dock.debtor(3), minute < 5 ? OWN : ahead);
        }
        dock.moveGang(0, NONE);
        Check.same("not before a minute passes", dock.debtor(3), 0);
        dock.pass(1);
        Check.same("the dock", dock.debtor(1), NONE);
        Check.same("the dock in the yard", dock.debtor(2), NONE);
        dock.moveGang(0, 1);
        dock.pass(2);
        Check.same("the last of two minutes", dock.debtor(3), 0);
        Crossdockery high = Docks.lorries(6);
        high.addLorry(false, 0, 1);
        high.addLorry(true, 0, 1);
        high.addTransfer(7, 6, 1);
        Docks.gangAt(high, 1, 3);
        Docks.arriveAt(high, 6, 3);
        high.pass(6);
        Check.same("the last lorry", high.debtor(6), 7);
    }

    private static void debtorRefused() {
        String here = "Promise 22";
        Doc.says(here, NO_LORRY);
        for (int lorry : Refused.outside(0, Docks.BUSY_LORRIES - 1)) {
            Refused.call("lorry " + lorry, Docks::busy, Check.INDEX, busy -> busy.debtor(lorry));
        }
        Refused.call("no lorries", Crossdockery::new, Check.INDEX, empty -> empty.debtor(0));
        Refused.call("lorry 8", Docks::full, Check.INDEX, full -> full.debtor(8));
        Doc.says(here, "Throws NoSuchElementException if it did not wait in that minute, or no minute has passed");
        for (int lorry = 0; lorry < 4; lorry++) {
            int some = lorry;
            Refused.call("no minute has passed", BoundariesOfMoney::waitingDock, Check.ELEMENT,
                    dock -> dock.debtor(some));
        }
        Refused.call("a unit was handled", Docks::busy, Check.ELEMENT, busy -> busy.debtor(0));
        Refused.call("expected", Docks::busy, Check.ELEMENT, busy -> busy.debtor(2));
        Refused.call("left before", Docks::busy, Check.ELEMENT, busy -> busy.debtor(3));
        Refused.call("arrived behind that minute", BoundariesOfMoney::justArrived, Check.ELEMENT,
                dock -> dock.debtor(0));
        Refused.call("left in that minute", BoundariesOfMoney::justLeft, Check.ELEMENT, dock -> dock.debtor(0));
        Check.same("waited in that minute", justLeft().debtor(2), NONE);
        Crossdockery dock = justLeft();
        dock.pass(1);
        Check.thrown("waited in the minute before", Check.ELEMENT, () -> dock.debtor(2));
        Crossdockery sent = justLeft();
        sent.sendOff(2);
        Check.same("sent off behind that minute, in which it waited", sent.debtor(2), NONE);
        sent.pass(1);
        Check.thrown("sent off before that minute", Check.ELEMENT, () -> sent.debtor(2));
        Crossdockery added = justLeft();
        added.addLorry(true, 0, 1);
        Check.thrown("added behind that minute", Check.ELEMENT, () -> added.debtor(3));
    }

    private static Crossdockery justArrived() {
        Crossdockery dock = Docks.lorries(3);
        dock.pass(3);
        Docks.arriveAt(dock, 0, 0);
        return dock;
    }

    /** Lorry 0 left in the last minute, lorry 2 waited behind it. */
    private static Crossdockery justLeft() {
        Crossdockery dock = justArrived();
        Docks.arriveAt(dock, 2, 0);
        dock.pass(1);
        return dock;
    }

    // ---- promises 23 and 24

    /** The invoices of waitingDock() in the minute 12, the last of them without power: from NONE, 0, 1, 2 and 3. */
    private static final int[][] INVOICES = {
        {0, 0, 0, 0, 0},
        {20, 60, 0, 0, 0},
        {3, 9, 18, 0, 0},
        {5, 15, 15, 0, 0},
    };

    private static Crossdockery invoicedDock() {
        Crossdockery dock = waitingDock();
        dock.pass(11);
        dock.moveGang(0, NONE);
        dock.pass(1);
        return dock;
    }

    private static void invoice() {
        String here = "Promise 23";
        Doc.says(here, "Returns an invoice.");
        Doc.says(here, "debtor: the number of the lorry that owes, or NONE for the dock");
        Doc.says(here, "lorry: the number of the lorry to which it is owed");
        Doc.says(here, "Returns the invoice in cents.");
        Crossdockery dock = invoicedDock();
        for (int debtor = NONE; debtor < 4; debtor++) {
            for (int lorry = 0; lorry < 4; lorry++) {
                Check.same(debtor + " to " + lorry, dock.invoice(debtor, lorry), INVOICES[lorry][debtor + 1]);
                Check.same("nothing yet", waitingDock().invoice(debtor, lorry), 0);
            }
        }
        Check.same("from the last to the last", Docks.full().invoice(7, 7), 0);
        Crossdockery last = manyBehindTheLast();
        Check.same("the last lorry owes", last.invoice(7, 0), 4 * 9);
        Check.same("and nobody else", last.balance(7), -4L * 9);
    }

    /** Lorry 7 is late and has its units handled; lorry 0 is behind it in the yard for four minutes. */
    private static Crossdockery manyBehindTheLast() {
        Crossdockery dock = new Crossdockery();
        dock.addLorry(true, 0, 9);
        for (int i = 1; i < 8; i++) {
            dock.addLorry(i % 2 == 1, 0, 1);
        }
        dock.addTransfer(7, 2, 5);
        Docks.gangAt(dock, 1, 2);
        dock.pass(1);
        Docks.arriveAt(dock, 7, 2);
        dock.pass(1);
        Docks.arriveAt(dock, 0, 2);
        dock.pass(4);
        Check.same("it left", dock.stateOf(7), 'l');
        return dock;
    }

    private static void invoiceRefused() {
        Doc.says("Promise 23", NO_LORRY_FOR_EITHER);
        for (int debtor : Refused.outside(NONE, Docks.BUSY_LORRIES - 1)) {
            Refused.call("from " + debtor, Docks::busy, Check.INDEX, dock -> dock.invoice(debtor, 0));
        }
        for (int lorry : Refused.outside(0, Docks.BUSY_LORRIES - 1)) {
            Refused.call("to " + lorry, Docks::busy, Check.INDEX, dock -> dock.invoice(0, lorry));
            Refused.call("of the dock to " + lorry, Docks::busy, Check.INDEX, dock -> dock.invoice(NONE, lorry));
            Refused.call("both " + lorry, Docks::busy, Check.INDEX, dock -> dock.invoice(OWN, lorry));
        }
        Refused.call("no lorries", Crossdockery::new, Check.INDEX, dock -> dock.invoice(NONE, 0));
        Refused.call("from 8", Docks::full, Check.INDEX, dock -> dock.invoice(8, 0));
        Refused.call("to 8", Docks::full, Check.INDEX, dock -> dock.invoice(NONE, 8));
    }

    private static void invoiceAnew() {
        String here = "Promise 24";
        Doc.says(here, "Returns the same invoice, found by letting all that has happened happen once more, minute by "
                + "minute, in a new dock.");
        Doc.says(here, "debtor: the number of the lorry that owes, or NONE for the dock");
        Doc.says(here, "lorry: the number of the lorry to which it is owed");
        Doc.says(here, "Returns the invoice in cents.");
        Crossdockery dock = invoicedDock();
        for (int debtor = NONE; debtor < 4; debtor++) {
            for (int lorry = 0; lorry < 4; lorry++) {
                Check.same(debtor + " to " + lorry, dock.invoiceAnew(debtor, lorry), INVOICES[lorry][debtor + 1]);
                Check.same("nothing yet", waitingDock().invoiceAnew(debtor, lorry), 0);
            }
        }
        Check.same("from the last to the last", Docks.full().invoiceAnew(7, 7), 0);
        Check.same("the last lorry owes", manyBehindTheLast().invoiceAnew(7, 0), 4 * 9);
        Crossdockery busy = Docks.busy();
        for (int i = 0; i < 4; i++) {
            busy.planDoor(5, i);
            busy.moveGang(2, 3 - i);
            busy.pass(2);
            for (int lorry = 0; lorry < Docks.BUSY_LORRIES; lorry++) {
                Check.same("of the dock to " + lorry, busy.invoiceAnew(NONE, lorry), busy.invoice(NONE, lorry));
                Check.same("of 2 to " + lorry, busy.invoiceAnew(2, lorry), busy.invoice(2, lorry));
            }
        }
        Crossdockery sent = invoicedDock();
        sent.sendOff(1);
        sent.pass(4);
        Check.same("behind one that was sent off", sent.invoiceAnew(NONE, 2), 3 + 4 * 3);
        Check.same("the one that was sent off", sent.invoiceAnew(NONE, 1), 20);
        eachEventOnceMore();
    }

    /** Events of each kind, each of which makes other lorries owe; refused calls, which are none, between them. */
    private static void eachEventOnceMore() {
        Crossdockery dock = waitingDock();
        alike("at first", dock, 8, 0, 0);
        dock.moveGang(0, NONE);
        alike("a gang goes", dock, 2, 2 * 20, 2 * 3);
        dock.addGang(5, 9, 13);
        Check.thrown("no such gang", Check.INDEX, () -> dock.moveGang(2, 0));
        dock.moveGang(1, 1);
        alike("another gang comes, up to the minute 13", dock, 5, 4 * 20, 4 * 3);
        dock.planDoor(2, 0);
        Check.thrown("the lorry is at a door", Check.STATE, () -> dock.planDoor(1, 0));
        alike("a lorry goes to another door", dock, 1, 5 * 20, 5 * 3);
        Docks.gangAt(dock, 4, 0);
        alike("all units of it are unloaded", dock, 2, 7 * 20, 5 * 3);
        dock.addLorry(true, 0, 1);
        Check.thrown("out of range", Check.ARGUMENT, () -> dock.addTransfer(4, 3, 0));
        dock.addTransfer(4, 3, 1);
        Docks.arriveAt(dock, 4, 3);
        dock.sendOff(1);
        dock.moveGang(1, NONE);
        dock.moveGang(0, 1);
        alike("units are loaded, and one waits without power", dock, 5, 7 * 20, 5 * 3);
        Check.same("without power", dock.invoiceAnew(NONE, 4), 5);
    }

    /** After some minutes the dock owes this to the lorries 1 and 2, and a new dock owes the same as this one. */
    private static void alike(String what, Crossdockery dock, int minutes, int toFirst, int toSecond) {
        dock.pass(minutes);
        Check.same(what + ", to 1", dock.invoiceAnew(NONE, 1), toFirst);
        Check.same(what + ", to 2", dock.invoiceAnew(NONE, 2), toSecond);
        for (int debtor = NONE; debtor < 4; debtor++) {
            for (int lorry = 0; lorry < 4; lorry++) {
                Check.same(what + ", from " + debtor + " to " + lorry, dock.invoiceAnew(debtor, lorry),
                        dock.invoice(debtor, lorry));
            }
        }
    }

    private static void invoiceAnewRefused() {
        Doc.says("Promise 24", NO_LORRY_FOR_EITHER);
        for (int debtor : Refused.outside(NONE, Docks.BUSY_LORRIES - 1)) {
            Refused.call("from " + debtor, Docks::busy, Check.INDEX, dock -> dock.invoiceAnew(debtor, 0));
        }
        for (int lorry : Refused.outside(0, Docks.BUSY_LORRIES - 1)) {
            Refused.call("to " + lorry, Docks::busy, Check.INDEX, dock -> dock.invoiceAnew(0, lorry));
            Refused.call("of the dock to " + lorry, Docks::busy, Check.INDEX,
                    dock -> dock.invoiceAnew(NONE, lorry));
            Refused.call("both " + lorry, Docks::busy, Check.INDEX, dock -> dock.invoiceAnew(OWN, lorry));
        }
        Refused.call("no lorries", Crossdockery::new, Check.INDEX, dock -> dock.invoiceAnew(NONE, 0));
        Refused.call("from 8", Docks::full, Check.INDEX, dock -> dock.invoiceAnew(8, 0));
        Refused.call("to 8", Docks::full, Check.INDEX, dock -> dock.invoiceAnew(NONE, 8));
    }

    // ---- promise 25

    private static void balance() {
        String here = "Promise 25";
        Doc.says(here, "Returns what is owed to somebody less what it owes.");
        Doc.says(here, "who: the number of a lorry, or NONE for the dock");
        Doc.says(here, "Returns the difference in cents.");
        Crossdockery dock = invoicedDock();
        long[] due = {-28, -84, 80 - 33, 30, 35};
        for (int who = NONE; who < 4; who++) {
            Check.same("of " + who, dock.balance(who), due[who + 1]);
            Check.same("nothing yet", waitingDock().balance(who), 0L);
        }
        Check.same("of the last", manyBehindTheLast().balance(7), -36L);
        Check.same("to the first", manyBehindTheLast().balance(0), 36L);
        Crossdockery most = new Crossdockery();
        for (int i = 0; i < 8; i++) {
            most.addLorry(i < 7, 0, 99);
        }
        for (int i = 0; i < 7; i++) {
            most.addTransfer(i, 7, 1);
            Docks.arriveAt(most, i, i % 4);
        }
        Docks.passTo(most, 2000);
        Check.same("of the dock to seven, for all minutes", most.balance(NONE), -7L * 2000 * 99);
        Check.same("of one of them", most.balance(6), 2000L * 99);
        Check.same("of the other one", most.balance(7), 0L);
        Doc.says(here, NO_LORRY);
        for (int who : Refused.outside(NONE, Docks.BUSY_LORRIES - 1)) {
            Refused.call("of " + who, Docks::busy, Check.INDEX, busy -> busy.balance(who));
        }
        Refused.call("no lorries", Crossdockery::new, Check.INDEX, empty -> empty.balance(0));
        Refused.call("of 8", Docks::full, Check.INDEX, full -> full.balance(8));
    }

    // ---- promises 26 and 27

    private static void meanWait() {
        String here = "Promise 26";
        Doc.says(here, "Returns the mean number of minutes that lorries have waited.");
        Doc.says(here, "Returns the sum of the minutes divided by the number of lorries, both converted to double.");
        Crossdockery dock = waitingDock();
        Check.same("nobody has waited", dock.meanWait(), 0.0);
        dock.pass(1);
        Check.same("three by four", dock.meanWait(), 0.75);
        dock.pass(10);
        Check.same("33 by four", dock.meanWait(), 8.25);
        dock.addLorry(true, 0, 1);
        Check.same("33 by five", dock.meanWait(), 33.0 / 5.0);
        dock.addLorry(true, 0, 1);
        dock.addLorry(true, 0, 1);
        Check.same("33 by seven", dock.meanWait(), 33.0 / 7.0);
        dock.sendOff(1);
        Check.same("also of those that have left", dock.meanWait(), 33.0 / 7.0);
        Crossdockery one = Docks.lorries(1);
        Check.same("one lorry", one.meanWait(), 0.0);
        Doc.says(here, "Throws ArithmeticException if there are no lorries");
        Refused.call("a new object", Crossdockery::new, Check.ARITHMETIC, empty -> empty.meanWait());
        Refused.call("gangs and minutes", BoundariesOfMoney::withoutLorries, Check.ARITHMETIC,
                empty -> empty.meanWait());
    }

    private static Crossdockery withoutLorries() {
        Crossdockery dock = new Crossdockery();
        Docks.gangAt(dock, 1, 0);
        dock.pass(9);
        return dock;
    }

    private static void dockShare() {
        String here = "Promise 27";
        Doc.says(here, "Returns the share of all waited minutes that are owed by the dock.");
        Doc.says(here, "Returns the number of minutes that the dock owes divided by that of all minutes that lorries have "
                + "waited, both converted to float.");
        Crossdockery dock = waitingDock();
        dock.pass(1);
        Check.same("none of three", dock.dockShare(), 0.0f);
        dock.pass(10);
        Check.same("none of 33", dock.dockShare(), 0.0f);
        dock.moveGang(0, NONE);
        dock.pass(1);
        Check.same("3 of 36", dock.dockShare(), 3.0f / 36.0f);
        dock.pass(2);
        Check.same("9 of 42", dock.dockShare(), 9.0f / 42.0f);
        Crossdockery all = Docks.lorries(2);
        all.addTransfer(0, 1, 1);
        Docks.arriveAt(all, 0, 0);
        all.pass(1);
        Check.same("one of one", all.dockShare(), 1.0f);
        all.pass(300);
        Check.same("all", all.dockShare(), 1.0f);
        Doc.says(here, "Throws ArithmeticException if no lorry has waited");
        Refused.call("a new object", Crossdockery::new, Check.ARITHMETIC, empty -> empty.dockShare());
        Refused.call("gangs and minutes", BoundariesOfMoney::withoutLorries, Check.ARITHMETIC,
                empty -> empty.dockShare());
        Refused.call("no minute has passed", BoundariesOfMoney::waitingDock, Check.ARITHMETIC,
                some -> some.dockShare());
        Refused.call("all are expected", BoundariesOfMoney::allExpected, Check.ARITHMETIC, some -> some.dockShare());
        Refused.call("one has left at once", BoundariesOfMoney::oneLeftAtOnce, Check.ARITHMETIC,
                some -> some.dockShare());
    }

    private static Crossdockery allExpected() {
        Crossdockery dock = Docks.full();
        dock.pass(300);
        return dock;
    }

    private static Crossdockery oneLeftAtOnce() {
        Crossdockery dock = justArrived();
        dock.pass(9);
        return dock;
    }
}
