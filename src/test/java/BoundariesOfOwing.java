/** Boundaries that "Terms" names where it tells who owes, what that comes to, and of exceptions. */
final class BoundariesOfOwing {
    private static final String HERE = "Terms";
    private static final int NONE = Crossdockery.NONE;
    private static final int OWN = Crossdockery.OWN;

    private BoundariesOfOwing() {
    }

    static void run() {
        beforeThePlannedMinute();
        freeMinutes();
        noPowerOrBringing();
        lowestTransferNotUnloaded();
        expectedAndDue();
        expectedAndNotDue();
        notExpectedOrNone();
        yardLooksAtTheDoor();
        yardBehindOneHandled();
        yardBehindOneNotHandled();
        yardWithoutRegardToMinutes();
        rates();
        sums();
        exceptionsChangeNothing();
        firstExceptionListed();
        constants();
        aheadOfTheCalls();
    }

    // ---- the lorry's own minutes

    private static void beforeThePlannedMinute() {
        Doc.says(HERE, "Who owes. A minute that a lorry waits is its own, that is, nobody owes it, if the minute is "
                + "less than its planned minute,");
        for (int planned : new int[] {0, 1, 2, 7}) {
            Crossdockery dock = bringing(planned);
            for (int minute = 0; minute < 9; minute++) {
                dock.pass(1);
                Check.same("planned " + planned + ", minute " + minute, dock.debtor(0),
                        minute < planned ? OWN : NONE);
                Check.same("own", dock.ownMinutes(0), Math.min(minute + 1, planned));
                Check.same("owed", dock.invoice(NONE, 0), Math.max(0, minute + 1 - planned) * 4);
            }
        }
        Crossdockery last = bringing(1999);
        Docks.passTo(last, 1999);
        Check.same("the minute 1998", last.debtor(0), OWN);
        last.pass(1);
        Check.same("the minute 1999", last.debtor(0), NONE);
        Check.same("all but one", last.ownMinutes(0), 1999);
    }

    /** A lorry that brings goods and stands at a door without power. */
    private static Crossdockery bringing(int planned) {
        Crossdockery dock = new Crossdockery();
        dock.addLorry(true, planned, 4);
        dock.addLorry(false, 0, 1);
        dock.addTransfer(0, 1, 9);
        Docks.arriveAt(dock, 0, 0);
        return dock;
    }

    private static void freeMinutes() {
        Doc.says(HERE, "or if the lorry has waited for fewer minutes before, own ones included, than its free "
                + "minutes, which are 0 for a lorry that brings goods and 5 for a lorry that takes goods.");
        for (int planned = 0; planned < 9; planned++) {
            Crossdockery dock = taking(planned);
            int own = Math.max(5, planned);
            for (int minute = 0; minute < 12; minute++) {
                dock.pass(1);
                Check.same("takes, planned " + planned + ", minute " + minute, dock.debtor(1),
                        minute < own ? OWN : NONE);
            }
            Check.same("own", dock.ownMinutes(1), own);
        }
        Crossdockery late = taking(0);
        late.sendOff(1);
        late.addLorry(false, 0, 1);
        late.addTransfer(0, 2, 1);
        late.pass(10);
        Docks.arriveAt(late, 2, 0);
        Docks.debtors("arrived at 10", late, 2, OWN, OWN, OWN, OWN, OWN, NONE, NONE);
        Docks.debtors("brings, from the first on", bringing(0), 0, NONE, NONE);
        Crossdockery yard = taking(0);
        yard.addLorry(false, 0, 1);
        yard.addTransfer(0, 2, 1);
        Docks.arriveAt(yard, 2, 0);
        Docks.debtors("in the yard", yard, 2, OWN, OWN, OWN);
        yard.sendOff(1);
        Docks.debtors("and then at the door", yard, 2, OWN, OWN, NONE);
        handledMinutesAreNotWaited();
    }

    private static Crossdockery taking(int planned) {
        Crossdockery dock = new Crossdockery();
        dock.addLorry(true, 0, 1);
        dock.addLorry(false, planned, 4);
        dock.addTransfer(0, 1, 9);
        Docks.arriveAt(dock, 1, 0);
        return dock;
    }

    private static void handledMinutesAreNotWaited() {
        Crossdockery dock = Docks.lorries(2);
        dock.addTransfer(0, 1, 9);
        Docks.gangAt(dock, 9, 0);
        Docks.arriveAt(dock, 0, 0);
        dock.pass(1);
        int gang = Docks.gangAt(dock, 1, 1);
        Docks.arriveAt(dock, 1, 1);
        dock.pass(3);
        dock.moveGang(gang, NONE);
        Docks.debtors("first four", dock, 1, OWN, OWN, OWN, OWN);
        dock.moveGang(gang, 1);
        dock.pass(2);
        Check.thrown("handled", Check.ELEMENT, () -> dock.debtor(1));
        dock.moveGang(gang, NONE);
        Docks.debtors("the fifth, and the sixth", dock, 1, OWN, NONE);
    }

    // ---- at a door

    private static void noPowerOrBringing() {
        Doc.says(HERE, "Otherwise, it is told as follows. For a lorry at a door: the dock owes the minute if the "
                + "power of the door is 0, or if the lorry brings goods.");
        Crossdockery dock = taking(0);
        dock.moveGang(dock.addGang(1, 7, 9), 0);
        int elsewhere = Docks.gangAt(dock, 9, 1);
        dock.pass(5);
        Docks.debtors("power 0, then 1, then 0", dock, 1, NONE, NONE, 0, 0, NONE, NONE);
        dock.moveGang(elsewhere, 0);
        Docks.debtors("another gang there", dock, 1, 0);
        dock.moveGang(elsewhere, 1);
        Docks.debtors("and gone", dock, 1, NONE);
        Docks.debtors("brings, no power", bringing(0), 0, NONE, NONE, NONE);
        Crossdockery behind = Docks.lorries(3);
        Docks.gangAt(behind, 9, 0);
        Docks.arriveAt(behind, 0, 0);
        Docks.arriveAt(behind, 2, 0);
        Docks.debtors("behind one that brings, with power", behind, 2, NONE);
    }

    private static void lowestTransferNotUnloaded() {
        Doc.says(HERE, "A lorry that takes goods, at a door with more power, waits for units that are not ready: of "
                + "its transfers of which some units are not unloaded, the one with the lowest number is looked at,");
        Crossdockery dock = afterFiveFreeMinutes(0, 1000);
        Docks.debtors("both, the lowest", dock, 4, 0, 0);
        Docks.gangAt(dock, 1, 0);
        Docks.arriveAt(dock, 0, 0);
        Docks.debtors("some units of the lowest", dock, 4, NONE);
        Check.same("one of them is not unloaded", dock.unloaded(1), 1);
        Docks.debtors("the last one of them in this minute", dock, 4, OWN);
        Check.same("none of them is not unloaded", dock.unloaded(1), 2);
        dock.pass(2);
        Check.same("both loaded", dock.loaded(1), 2);
        Docks.debtors("the next", dock, 4, OWN);
        Docks.passTo(dock, 1000);
        Docks.debtors("the next, due", dock, 4, 2, 2);
        Crossdockery other = afterFiveFreeMinutes(1000, 0);
        Docks.debtors("both, the lowest is not due", other, 4, OWN, OWN);
        other.planDoor(0, 2);
        other.arrive(0);
        Docks.debtors("the lowest is there, without power", other, 4, NONE, NONE);
        other.sendOff(0);
        Docks.debtors("the lowest has left with some units", other, 4, NONE, NONE);
    }

    /** Lorry 4 takes, at door 1 with power: first from lorry 0, then from lorry 2; the transfer 0 is another's. */
    private static Crossdockery afterFiveFreeMinutes(int plannedOfFirst, int plannedOfSecond) {
        Crossdockery dock = new Crossdockery();
        dock.addLorry(true, plannedOfFirst, 1);
        dock.addLorry(false, 0, 1);
        dock.addLorry(true, plannedOfSecond, 1);
        dock.addLorry(true, 0, 1);
        dock.addLorry(false, 0, 8);
        dock.addTransfer(3, 1, 5);
        dock.addTransfer(0, 4, 2);
        dock.addTransfer(2, 4, 2);
        Docks.gangAt(dock, 1, 1);
        Docks.arriveAt(dock, 4, 1);
        dock.pass(5);
        Check.same("free minutes are over", dock.ownMinutes(4), 5);
        return dock;
    }

    private static void expectedAndDue() {
        Doc.says(HERE, "and the lorry that brings it owes the minute if it is expected and its planned minute is not "
                + "greater than this minute;");
        Docks.debtors("planned for this minute", afterFiveFreeMinutes(5, 1000), 4, 0);
        Docks.debtors("planned for the one before", afterFiveFreeMinutes(4, 1000), 4, 0);
        Docks.debtors("planned for the next one", afterFiveFreeMinutes(6, 1000), 4, OWN, 0, 0);
        Docks.debtors("planned for the first one", afterFiveFreeMinutes(0, 0), 4, 0, 0, 0);
        Crossdockery dock = afterFiveFreeMinutes(5, 0);
        dock.pass(3);
        Check.same("owed to it", dock.invoice(0, 4), 24);
        Check.same("no one else", dock.invoice(2, 4) + dock.invoice(NONE, 4), 0);
        dock.planDoor(0, 3);
        Docks.debtors("expected, with a door", dock, 4, 0);
    }

    private static void expectedAndNotDue() {
        Doc.says(HERE, "if it is expected and its planned minute is greater, the minute is the waiting lorry's own;");
        Crossdockery dock = afterFiveFreeMinutes(8, 0);
        Docks.debtors("planned for 8", dock, 4, OWN, OWN, OWN, 0, 0);
        Check.same("own", dock.ownMinutes(4), 8);
        Check.same("owed", dock.invoice(0, 4), 16);
        Docks.debtors("planned for 1999", afterFiveFreeMinutes(1999, 0), 4, OWN, OWN);
    }

    private static void notExpectedOrNone() {
        Doc.says(HERE, "if it is not expected, or if there is no such transfer, the dock owes the minute.");
        Crossdockery yard = afterFiveFreeMinutes(0, 0);
        Docks.arriveAt(yard, 3, 2);
        Docks.debtors("still expected", yard, 4, 0);
        Docks.arriveAt(yard, 0, 2);
        Docks.debtors("in the yard", yard, 4, NONE, NONE);
        Check.same("still in the yard", yard.stateOf(0), 'y');
        Crossdockery early = afterFiveFreeMinutes(1000, 1000);
        Docks.arriveAt(early, 0, 2);
        Docks.debtors("at a door, before its planned minute", early, 4, NONE, NONE);
        early.sendOff(0);
        Docks.debtors("has left, before its planned minute", early, 4, NONE);
        Crossdockery queued = afterFiveFreeMinutes(0, 0);
        Docks.arriveAt(queued, 0, 1);
        Docks.debtors("in the yard behind it", queued, 4, NONE, NONE);
        Check.same("still in the yard", queued.stateOf(0), 'y');
        Crossdockery far = Docks.lorries(2);
        far.addTransfer(0, 1, 9);
        Docks.gangAt(far, 9, 0);
        Docks.gangAt(far, 9, 3);
        Docks.arriveAt(far, 1, 3);
        far.pass(5);
        Docks.arriveAt(far, 0, 0);
        Docks.debtors("no such transfer, all is under way", far, 1, NONE, NONE, NONE, NONE);
        Check.same("it is ready then", far.pass(1), 1);
    }

    // ---- in the yard

    private static void yardLooksAtTheDoor() {
        Doc.says(HERE, "For a lorry in the yard, whatever its place in the queue, the lorry is looked at that was at "
                + "its planned door in this minute, also if it has left in this minute.");
        Crossdockery dock = lateOneAhead(2);
        Docks.debtors("place 0", dock, 2, 0);
        Check.same("place 1", dock.debtor(4), 0);
        Check.same("place 2", dock.debtor(6), 0);
        dock.planDoor(6, 3);
        dock.planDoor(4, 1);
        Docks.debtors("it has left in this minute", dock, 2, 0);
        Check.same("it left", dock.stateOf(0), 'l');
        Check.same("at its planned door by now", dock.debtor(4), NONE);
        Check.same("at a door of its own", dock.debtor(6), NONE);
        Crossdockery first = lateOneAhead(1);
        Docks.debtors("it gets the door and leaves in this minute", first, 4, 0);
        Check.same("it left", first.stateOf(0), 'l');
        first.sendOff(2);
        Docks.debtors("the next one at the door, that is late too", first, 6, 4);
        Crossdockery gone = lateOneAhead(3);
        gone.pass(1);
        gone.sendOff(0);
        Docks.debtors("not one sent off before, but the next", gone, 4, 2);
    }

    /**
     * The lorries 0, 2, 4 and 6 bring some units each, arrive at door 0 in the minute 5 and are planned for the
     * minute 4; door 0 handles a unit a minute. Lorry 7 brings and stands at door 1 without power.
     */
    private static Crossdockery lateOneAhead(int units) {
        Crossdockery dock = new Crossdockery();
        for (int i = 0; i < 7; i++) {
            dock.addLorry(i % 2 == 0, 4, 10 + i);
        }
        dock.addLorry(true, 0, 1);
        for (int i = 0; i < 8; i += 2) {
            dock.addTransfer(i, 1, units);
        }
        dock.addTransfer(7, 3, units);
        Docks.gangAt(dock, 1, 0);
        Docks.arriveAt(dock, 7, 1);
        dock.pass(5);
        for (int i = 0; i < 8; i += 2) {
            Docks.arriveAt(dock, i, 0);
        }
        return dock;
    }

    private static void yardBehindOneHandled() {
        Doc.says(HERE, "If a unit of that one was handled, that one owes the minute if it arrived at a minute "
                + "greater than its planned minute, and otherwise the dock does.");
        for (int arrived = 3; arrived < 8; arrived++) {
            Crossdockery dock = new Crossdockery();
            dock.addLorry(true, 5, 9);
            dock.addLorry(false, 0, 1);
            dock.addLorry(true, 0, 2);
            dock.addTransfer(0, 1, 3);
            dock.addTransfer(2, 1, 3);
            Docks.gangAt(dock, 1, 3);
            Docks.passTo(dock, arrived);
            Docks.arriveAt(dock, 0, 3);
            Docks.arriveAt(dock, 2, 3);
            int due = arrived > 5 ? 0 : NONE;
            Docks.debtors("arrived at " + arrived + ", planned for 5", dock, 2, due, due, due);
            Check.same("it left", dock.stateOf(0), 'l');
            Check.same("owed", dock.invoice(due, 2), 6);
        }
        Crossdockery loading = Docks.lorries(3);
        loading.addTransfer(0, 1, 2);
        loading.addTransfer(2, 1, 2);
        Docks.gangAt(loading, 1, 0);
        Docks.arriveAt(loading, 0, 0);
        loading.pass(2);
        Docks.arriveAt(loading, 1, 0);
        Docks.arriveAt(loading, 2, 0);
        Docks.debtors("behind a late one that takes", loading, 2, 1, 1);
        Docks.debtors("of which no unit is handled any more", loading, 2, NONE);
    }

    private static void yardBehindOneNotHandled() {
        Doc.says(HERE, "If not, the minute is owed by whoever would owe a minute to that one as to a lorry at a door,");
        Crossdockery noPower = Docks.lorries(3);
        noPower.addTransfer(0, 1, 2);
        noPower.pass(3);
        Docks.arriveAt(noPower, 0, 0);
        Docks.arriveAt(noPower, 2, 0);
        Docks.debtors("behind one without power, although it is late", noPower, 2, NONE, NONE);
        Crossdockery due = behindOneThatTakes(0);
        Docks.debtors("behind one that waits for a late lorry", due, 3, 0, 0);
        Check.same("the second of the queue", due.debtor(4), 0);
        Check.same("owed to it", due.invoice(0, 4), 4);
        due.moveGang(0, NONE);
        Docks.debtors("and without power", due, 3, NONE);
        due.moveGang(0, 2);
        Docks.arriveAt(due, 0, 1);
        Docks.debtors("and for one that is there", due, 3, NONE);
        Crossdockery left = Docks.lorries(3);
        left.pass(3);
        Docks.gangAt(left, 1, 0);
        Docks.arriveAt(left, 1, 0);
        Docks.arriveAt(left, 2, 0);
        Docks.debtors("behind one that takes and has left in this minute", left, 2, NONE);
    }

    /** Lorry 2 takes from lorry 0, at door 2 with power; the lorries 3 and 4 bring, in the yard behind it. */
    private static Crossdockery behindOneThatTakes(int plannedOfFirst) {
        Crossdockery dock = new Crossdockery();
        dock.addLorry(true, plannedOfFirst, 1);
        dock.addLorry(false, 0, 1);
        dock.addLorry(false, 0, 5);
        dock.addLorry(true, 0, 3);
        dock.addLorry(true, 0, 2);
        dock.addTransfer(0, 2, 4);
        dock.addTransfer(3, 1, 4);
        dock.addTransfer(4, 1, 4);
        Docks.gangAt(dock, 1, 2);
        Docks.arriveAt(dock, 2, 2);
        Docks.arriveAt(dock, 3, 2);
        Docks.arriveAt(dock, 4, 2);
        return dock;
    }

    private static void yardWithoutRegardToMinutes() {
        Doc.says(HERE, "without regard to its planned minute and its free minutes;");
        Crossdockery free = behindOneThatTakes(0);
        for (int minute = 0; minute < 7; minute++) {
            free.pass(1);
            Check.same("its own minutes first", free.debtor(2), minute < 5 ? OWN : 0);
            Check.same("behind it all the same", free.debtor(3), 0);
        }
        Crossdockery planned = bringing(1000);
        planned.addLorry(true, 0, 1);
        planned.addLorry(true, 2, 1);
        Docks.arriveAt(planned, 2, 0);
        Docks.arriveAt(planned, 3, 0);
        Docks.debtors("behind one before its planned minute", planned, 2, NONE, NONE);
        Check.same("own by its planned minute, in the yard too", planned.debtor(3), OWN);
        Docks.debtors("from its planned minute on", planned, 3, NONE);
        Check.same("the one at the door", planned.debtor(0), OWN);
        Doc.says(HERE, "if it would be its own, that one owes the minute.");
        Crossdockery dock = behindOneThatTakes(6);
        for (int minute = 0; minute < 9; minute++) {
            dock.pass(1);
            Check.same("at the door, minute " + minute, dock.debtor(2), minute < 6 ? OWN : 0);
            Check.same("behind it, minute " + minute, dock.debtor(3), minute < 6 ? 2 : 0);
            Check.same("and behind that", dock.debtor(4), minute < 6 ? 2 : 0);
        }
        Check.same("six minutes", dock.invoice(2, 3), 18);
        Check.same("three minutes", dock.invoice(0, 3), 9);
        Crossdockery taking = behindOneThatTakes(20);
        taking.addLorry(false, 0, 1);
        taking.addTransfer(3, 5, 1);
        Docks.arriveAt(taking, 5, 2);
        Docks.debtors("free minutes in the yard", taking, 5, OWN, OWN, OWN, OWN, OWN, 2, 2);
    }

    // ---- money

    private static void rates() {
        Doc.says(HERE, "Money. For each minute that is owed to a lorry, the one who owes it owes the rate of the "
                + "lorry, in cents.");
        for (int rate : new int[] {1, 2, 98, 99}) {
            Crossdockery dock = new Crossdockery();
            dock.addLorry(true, 0, 50);
            dock.addLorry(false, 0, rate);
            dock.addTransfer(0, 1, 1);
            Docks.gangAt(dock, 1, 0);
            Docks.arriveAt(dock, 1, 0);
            dock.pass(5);
            Check.same("own minutes are owed by nobody", dock.balance(1), 0L);
            dock.pass(1);
            Check.same("one minute", dock.invoice(0, 1), rate);
            Check.same("by nobody else", dock.invoice(NONE, 1), 0);
            Check.same("less what is owed", dock.balance(0), (long) -rate);
        }
    }

    private static void sums() {
        Doc.says(HERE, "The invoice of somebody for a lorry is the sum of this over all minutes.");
        Crossdockery dock = Docks.lorries(1);
        dock.addLorry(true, 0, 99);
        dock.addLorry(false, 0, 1);
        dock.addTransfer(1, 2, 1);
        Docks.arriveAt(dock, 1, 3);
        Check.same("no minutes", dock.invoice(NONE, 1), 0);
        for (int minutes = 1; minutes <= 3; minutes++) {
            dock.pass(1);
            Check.same("minutes " + minutes, dock.invoice(NONE, 1), 99 * minutes);
        }
        Docks.passTo(dock, 2000);
        Check.same("all minutes", dock.invoice(NONE, 1), 99 * 2000);
        Check.same("all minutes anew", dock.invoiceAnew(NONE, 1), 99 * 2000);
        Check.same("all minutes owed", dock.balance(NONE), -99L * 2000);
        Crossdockery parts = behindOneThatTakes(3);
        parts.pass(5);
        parts.moveGang(0, NONE);
        parts.pass(4);
        Check.same("the one at the door", parts.invoice(2, 3), 3 * 3);
        Check.same("the late one", parts.invoice(0, 3), 2 * 3);
        Check.same("the dock", parts.invoice(NONE, 3), 4 * 3);
        Check.same("the sum of all", parts.balance(3), 9L * 3);
    }

    // ---- exceptions, constants

    private static void exceptionsChangeNothing() {
        Doc.says(HERE, "Exceptions. A method that throws an exception changes nothing.");
        Refused.call("addLorry", Docks::full, Check.STATE, dock -> dock.addLorry(true, 0, 1));
        Refused.call("addTransfer", Docks::full, Check.STATE, dock -> dock.addTransfer(0, 1, 1));
        Refused.call("planDoor", Docks::busy, Check.STATE, dock -> dock.planDoor(0, 1));
        Refused.call("arrive", Docks::busy, Check.UNSUPPORTED, dock -> dock.arrive(2));
        Refused.call("sendOff", Docks::busy, Check.STATE, dock -> dock.sendOff(2));
        Refused.call("addGang", Docks::full, Check.STATE, dock -> dock.addGang(1, 0, 1));
        Refused.call("moveGang", Docks::busy, Check.INDEX, dock -> dock.moveGang(0, 4));
        Refused.call("pass", Docks::busy, Check.ARGUMENT, dock -> dock.pass(0));
        Refused.call("lorryAt", Docks::busy, Check.ELEMENT, dock -> dock.lorryAt(1));
        Refused.call("inQueue", Docks::busy, Check.ELEMENT, dock -> dock.inQueue(0, 1));
        Refused.call("leftAt", Docks::busy, Check.ELEMENT, dock -> dock.leftAt(0));
        Refused.call("debtor", Docks::busy, Check.ELEMENT, dock -> dock.debtor(0));
        Refused.call("bestDoor", Docks::busy, Check.STATE, dock -> dock.bestDoor(0));
        Refused.call("meanWait", Crossdockery::new, Check.ARITHMETIC, dock -> dock.meanWait());
        Refused.call("dockShare", Crossdockery::new, Check.ARITHMETIC, dock -> dock.dockShare());
    }

    private static void firstExceptionListed() {
        Doc.says(HERE, "If several exceptions apply, the exception that is listed first is thrown.");
        Refused.call("addLorry", Docks::full, Check.ARGUMENT, dock -> dock.addLorry(true, 2000, 1));
        Refused.call("addLorry", Docks::full, Check.ARGUMENT, dock -> dock.addLorry(true, 0, 0));
        Refused.call("addTransfer 1 2", Docks::busy, Check.INDEX, dock -> dock.addTransfer(1, 6, 0));
        Refused.call("addTransfer 1 2", Docks::busy, Check.INDEX, dock -> dock.addTransfer(6, 0, 100));
        Refused.call("addTransfer 1 3", Docks::busy, Check.INDEX, dock -> dock.addTransfer(0, 6, 1));
        Refused.call("addTransfer 1 3", Docks::busy, Check.INDEX, dock -> dock.addTransfer(-1, 3, 1));
        Refused.call("addTransfer 1 3", Docks::full, Check.INDEX, dock -> dock.addTransfer(0, 8, 1));
        Refused.call("addTransfer 2 3", Docks::busy, Check.ARGUMENT, dock -> dock.addTransfer(0, 1, 100));
        Refused.call("addTransfer 2 3", Docks::busy, Check.ARGUMENT, dock -> dock.addTransfer(0, 2, 1));
        Refused.call("addTransfer 2 3", Docks::busy, Check.ARGUMENT, dock -> dock.addTransfer(3, 1, 1));
        Refused.call("addTransfer 2 3", Docks::full, Check.ARGUMENT, dock -> dock.addTransfer(0, 1, 0));
        Refused.call("addTransfer 2 3", Docks::full, Check.ARGUMENT, dock -> dock.addTransfer(1, 3, 1));
        Refused.call("planDoor at a door", Docks::busy, Check.INDEX, dock -> dock.planDoor(0, 4));
        Refused.call("planDoor has left", Docks::busy, Check.INDEX, dock -> dock.planDoor(3, -1));
        Refused.call("addGang", Docks::full, Check.ARGUMENT, dock -> dock.addGang(10, 0, 1));
        Refused.call("addGang", Docks::full, Check.ARGUMENT, dock -> dock.addGang(1, 1, 1));
        Refused.call("pass", BoundariesOfOwing::nearTheEnd, Check.ARGUMENT, dock -> dock.pass(301));
        Refused.call("pass", BoundariesOfOwing::nearTheEnd, Check.STATE, dock -> dock.pass(300));
        Refused.call("inQueue", Docks::busy, Check.INDEX, dock -> dock.inQueue(4, -1));
        Refused.call("inQueue", Docks::busy, Check.INDEX, dock -> dock.inQueue(-1, 9));
        Refused.call("debtor", Docks::full, Check.INDEX, dock -> dock.debtor(8));
    }

    private static Crossdockery nearTheEnd() {
        Crossdockery dock = Docks.busy();
        Docks.passTo(dock, 1990);
        return dock;
    }

    private static void constants() {
        Doc.says(HERE, "The constants: NONE = -1: The dock, as one who owes; no door; no lorry.");
        Check.same("NONE", Crossdockery.NONE, -1);
        Crossdockery dock = bringing(1);
        Docks.gangAt(dock, 1, 2);
        Check.same("no door", dock.moveGang(0, -1), 2);
        Check.same("no door before", dock.moveGang(0, 3), -1);
        Check.same("no planned door", dock.planDoor(1, 0), -1);
        dock.pass(3);
        Check.same("the dock owes", dock.debtor(0), -1);
        Check.same("the dock's invoice", dock.invoice(-1, 0), 8);
        Check.same("the dock's balance", dock.balance(-1), -8L);
        Doc.says(HERE, "OWN = -2: The waiting lorry's own minute.");
        Check.same("OWN", Crossdockery.OWN, -2);
        Docks.debtors("own", bringing(1), 0, -2, -1);
    }

    private static void aheadOfTheCalls() {
        Doc.namesNoBoundary(HERE, "Ahead of the calls addLorry, addTransfer, planDoor, arrive, sendOff the interface "
                + "says: ---- lorries and transfers.");
        Doc.namesNoBoundary(HERE, "Ahead of the calls addGang, moveGang, pass, now, power the interface says: ---- "
                + "gangs and minutes.");
        Doc.namesNoBoundary(HERE, "Ahead of the calls stateOf, lorryAt, inQueue, unloaded, ready, loaded, leftAt, "
                + "leftBehind the interface says: ---- where lorries and goods are.");
        Doc.namesNoBoundary(HERE, "Ahead of the calls waited, ownMinutes, debtor, invoice, invoiceAnew, balance, "
                + "meanWait, dockShare the interface says: ---- waiting and invoices.");
        Doc.namesNoBoundary(HERE, "Ahead of the calls ways, leastWays, bestDoor, isSound the interface says: ---- "
                + "planning.");
    }
}
