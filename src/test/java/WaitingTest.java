import java.util.NoSuchElementException;

/** Promises 20 to 27: who waits, who owes it, and what that comes to. */
public final class WaitingTest {
    private static final int NONE = Crossdockery.NONE;
    private static final int OWN = Crossdockery.OWN;

    public static void main(String[] args) {
        wrongNumbers();
        whoWaits();
        ownBeforeThePlannedMinute();
        ownWhileFree();
        atDoorWithoutPower();
        atDoorForAnExpectedLorry();
        atDoorForTheLowestTransfer();
        atDoorForUnitsOnTheirWay();
        inYardBehindOneHandled();
        inYardBehindOneThatLeaves();
        inYardBehindOneThatWaits();
        inYardWhateverItsPlannedMinute();
        invoices();
        balances();
        means();
        shares();
        Check.finish();
    }

    /** A dock with a gang of the speed 9 at each of the doors 0 and 1. */
    private static Crossdockery powered() {
        Crossdockery dock = new Crossdockery();
        dock.moveGang(dock.addGang(9, 0, 2000), 0);
        dock.moveGang(dock.addGang(9, 0, 2000), 1);
        return dock;
    }

    private static int lorryAtOnce(Crossdockery dock, boolean isBringing, int door) {
        int lorry = dock.addLorry(isBringing, 0, 3);
        dock.planDoor(lorry, door);
        dock.arrive(lorry);
        return lorry;
    }

    private static void debtors(String what, Crossdockery dock, int lorry, int... due) {
        for (int debtor : due) {
            dock.pass(1);
            Check.same("22 " + what + " in the minute " + (dock.now() - 1), dock.debtor(lorry), debtor);
        }
    }

    private static void wrongNumbers() {
        Crossdockery dock = new Crossdockery();
        dock.addLorry(true, 0, 1);
        dock.addLorry(false, 0, 1);
        Class<IndexOutOfBoundsException> none = IndexOutOfBoundsException.class;
        for (int number : new int[] {OWN, 2, Integer.MAX_VALUE, Integer.MIN_VALUE}) {
            Check.thrown("20 waited", none, () -> dock.waited(number));
            Check.thrown("21 ownMinutes", none, () -> dock.ownMinutes(number));
            Check.thrown("22 debtor", none, () -> dock.debtor(number));
            Check.thrown("23 invoice of", none, () -> dock.invoice(number, 0));
            Check.thrown("23 invoice for", none, () -> dock.invoice(0, number));
            Check.thrown("24 invoiceAnew of", none, () -> dock.invoiceAnew(number, 0));
            Check.thrown("24 invoiceAnew for", none, () -> dock.invoiceAnew(0, number));
            Check.thrown("25 balance", none, () -> dock.balance(number));
        }
        Check.thrown("20 waited", none, () -> dock.waited(NONE));
        Check.thrown("21 ownMinutes", none, () -> dock.ownMinutes(NONE));
        Check.thrown("22 debtor", none, () -> dock.debtor(NONE));
        Check.thrown("23 invoice for the dock", none, () -> dock.invoice(0, NONE));
        Check.thrown("24 invoiceAnew for the dock", none, () -> dock.invoiceAnew(0, NONE));
        Check.same("23 invoice of itself", dock.invoice(1, 1), 0);
        Check.same("24 invoiceAnew of itself", dock.invoiceAnew(1, 1), 0);
    }

    private static void whoWaits() {
        Crossdockery dock = powered();
        Class<NoSuchElementException> none = NoSuchElementException.class;
        int brings = lorryAtOnce(dock, true, 0);
        int takes = lorryAtOnce(dock, false, 1);
        int expected = dock.addLorry(true, 0, 3);
        dock.addTransfer(brings, takes, 10);
        Check.thrown("22 no minute has passed", none, () -> dock.debtor(brings));
        dock.pass(1);
        Check.same("20 handled", dock.waited(brings), 0);
        Check.thrown("22 handled", none, () -> dock.debtor(brings));
        Check.same("20 at a door", dock.waited(takes), 1);
        Check.same("22 at a door", dock.debtor(takes), OWN);
        Check.same("20 expected", dock.waited(expected), 0);
        Check.thrown("22 expected", none, () -> dock.debtor(expected));
        int added = lorryAtOnce(dock, true, 0);
        Check.thrown("22 added behind the minute", none, () -> dock.debtor(added));
        dock.sendOff(takes);
        Check.same("22 sent off behind the minute", dock.debtor(takes), OWN);
        dock.pass(1);
        Check.thrown("22 gone in the minute", none, () -> dock.debtor(takes));
        Check.same("20 gone", dock.waited(takes), 1);
        Check.same("20 left in the minute", dock.waited(brings), 0);
        Check.same("20 in the yard", dock.waited(added), 1);
    }

    private static void ownBeforeThePlannedMinute() {
        Crossdockery dock = new Crossdockery();
        dock.addLorry(true, 3, 5);
        dock.addLorry(false, 3, 5);
        dock.addTransfer(0, 1, 5);
        dock.planDoor(0, 0);
        dock.arrive(0);
        debtors("before its minute", dock, 0, OWN, OWN, OWN, NONE, NONE);
        Check.same("20 all", dock.waited(0), 5);
        Check.same("21 before", dock.ownMinutes(0), 3);
        Check.same("23 from its minute on", dock.invoice(NONE, 0), 10);
    }

    private static void ownWhileFree() {
        Crossdockery dock = new Crossdockery();
        dock.addLorry(true, 0, 5);
        dock.addLorry(false, 2, 5);
        dock.addLorry(false, 7, 5);
        dock.addTransfer(0, 1, 5);
        dock.addTransfer(0, 2, 5);
        dock.planDoor(1, 0);
        dock.planDoor(2, 1);
        dock.arrive(1);
        dock.arrive(2);
        debtors("five minutes, own ones included", dock, 1, OWN, OWN, OWN, OWN, OWN, NONE, NONE, NONE);
        Check.same("21 five", dock.ownMinutes(1), 5);
        Check.same("21 up to its minute", dock.ownMinutes(2), 7);
        Check.same("22 from its minute on", dock.debtor(2), NONE);
    }

    private static void atDoorWithoutPower() {
        Crossdockery dock = new Crossdockery();
        dock.addLorry(true, 0, 5);
        int takes = lorryAtOnce(dock, false, 2);
        int brings = lorryAtOnce(dock, true, 3);
        dock.addTransfer(0, takes, 5);
        dock.addTransfer(brings, takes, 5);
        dock.moveGang(dock.addGang(1, 7, 9), 2);
        debtors("brings, no power", dock, brings, NONE, NONE, NONE, NONE, NONE);
        Check.same("21 none of its own", dock.ownMinutes(brings), 0);
        debtors("takes, with power from the minute 7 on", dock, takes, NONE, NONE, 0, 0, NONE);
    }

    private static void atDoorForAnExpectedLorry() {
        Crossdockery dock = powered();
        int brings = dock.addLorry(true, 7, 5);
        int takes = lorryAtOnce(dock, false, 1);
        dock.addTransfer(brings, takes, 20);
        dock.pass(5);
        Check.same("21 free", dock.ownMinutes(takes), 5);
        debtors("expected later", dock, takes, OWN, OWN);
        debtors("expected now", dock, takes, brings, brings);
        dock.planDoor(brings, 0);
        dock.arrive(brings);
        debtors("it is there", dock, takes, NONE);
        Check.same("23 two minutes", dock.invoice(brings, takes), 6);
        Check.same("23 one minute", dock.invoice(NONE, takes), 3);
        Check.same("21 seven minutes", dock.ownMinutes(takes), 7);
        dock.sendOff(brings);
        dock.pass(2);
        debtors("it has left", dock, takes, NONE);
    }

    private static void atDoorForTheLowestTransfer() {
        Crossdockery dock = powered();
        int late = dock.addLorry(true, 0, 5);
        int other = dock.addLorry(true, 0, 5);
        int later = dock.addLorry(true, 1000, 5);
        int takes = lorryAtOnce(dock, false, 1);
        int another = dock.addLorry(false, 0, 5);
        dock.addTransfer(late, another, 1);
        dock.addTransfer(other, takes, 5);
        dock.addTransfer(later, takes, 5);
        dock.addTransfer(late, takes, 5);
        dock.pass(5);
        debtors("the lowest number", dock, takes, other);
        dock.planDoor(other, 0);
        dock.arrive(other);
        dock.pass(3);
        Check.same("17 loaded", dock.loaded(1), 5);
        debtors("the next number", dock, takes, OWN);
        dock.planDoor(later, 0);
        dock.arrive(later);
        dock.pass(3);
        debtors("the last number", dock, takes, late);
    }

    private static void atDoorForUnitsOnTheirWay() {
        Crossdockery dock = new Crossdockery();
        int brings = dock.addLorry(true, 0, 5);
        int takes = lorryAtOnce(dock, false, 3);
        dock.addTransfer(brings, takes, 5);
        dock.moveGang(dock.addGang(9, 0, 2000), 0);
        dock.moveGang(dock.addGang(9, 0, 2000), 3);
        dock.planDoor(brings, 0);
        dock.pass(5);
        dock.arrive(brings);
        debtors("all is unloaded", dock, takes, NONE, NONE, NONE, NONE);
        Check.same("9 loads and leaves", dock.pass(1), 1);
    }

    private static void inYardBehindOneHandled() {
        Crossdockery dock = new Crossdockery();
        dock.moveGang(dock.addGang(1, 0, 2000), 0);
        int punctual = dock.addLorry(true, 2, 5);
        int late = dock.addLorry(true, 1, 5);
        int takes = dock.addLorry(false, 0, 5);
        dock.addTransfer(punctual, takes, 2);
        dock.addTransfer(late, takes, 2);
        dock.planDoor(punctual, 0);
        dock.planDoor(late, 0);
        dock.pass(2);
        dock.arrive(punctual);
        dock.arrive(late);
        int last = lorryAtOnce(dock, true, 0);
        dock.addTransfer(last, takes, 2);
        debtors("behind one that came at its minute", dock, last, NONE);
        Check.same("22 second as third", dock.debtor(late), NONE);
        debtors("behind one that leaves in this minute", dock, last, NONE);
        Check.same("12 it left", dock.stateOf(punctual), 'l');
        debtors("behind one that came late", dock, last, late, late);
        Check.same("12 it left too", dock.stateOf(late), 'l');
        Check.same("23 of the dock", dock.invoice(NONE, last), 6);
        Check.same("23 of the late one", dock.invoice(late, last), 6);
    }

    private static void inYardBehindOneThatLeaves() {
        Crossdockery dock = powered();
        int first = lorryAtOnce(dock, true, 0);
        int second = lorryAtOnce(dock, true, 0);
        dock.pass(1);
        Check.same("12 nothing to do", dock.stateOf(first), 'l');
        Check.same("22 nothing was handled", dock.debtor(second), NONE);
        Check.same("20 the first did not wait", dock.waited(first), 0);
    }

    private static void inYardBehindOneThatWaits() {
        Crossdockery dock = powered();
        int late = dock.addLorry(true, 2, 5);
        int front = lorryAtOnce(dock, false, 1);
        int second = lorryAtOnce(dock, true, 1);
        int third = lorryAtOnce(dock, true, 1);
        int takes = dock.addLorry(false, 0, 5);
        dock.addTransfer(late, front, 5);
        dock.addTransfer(second, takes, 5);
        dock.addTransfer(third, takes, 5);
        // The one at the door waits for a lorry that is not due before the minute 2: it owes those behind it.
        debtors("behind one that waits on its own", dock, second, front, front);
        debtors("behind one that waits for a late one", dock, third, late, late);
        Check.same("21 the front itself is still free", dock.ownMinutes(front), 4);
        Check.same("23 two minutes of the front", dock.invoice(front, third), 6);
        Check.same("23 two minutes of the late one", dock.invoice(late, second), 6);
        dock.moveGang(1, 0);
        debtors("behind one without power", dock, second, NONE);
    }

    private static void inYardWhateverItsPlannedMinute() {
        Crossdockery dock = new Crossdockery();
        int front = dock.addLorry(true, 1000, 5);
        int takes = dock.addLorry(false, 0, 5);
        dock.planDoor(front, 2);
        dock.arrive(front);
        int second = lorryAtOnce(dock, true, 2);
        dock.addTransfer(front, takes, 5);
        debtors("the front, before its minute", dock, front, OWN, OWN);
        debtors("behind it, the dock all the same", dock, second, NONE);
        dock.planDoor(second, 3);
        debtors("at another door", dock, front, OWN);
        Check.same("9 it had nothing to do", dock.stateOf(second), 'l');
    }

    private static void invoices() {
        Crossdockery dock = powered();
        int late = dock.addLorry(true, 0, 7);
        int takes = dock.addLorry(false, 0, 99);
        dock.addTransfer(late, takes, 9);
        dock.planDoor(takes, 1);
        dock.arrive(takes);
        dock.pass(300);
        dock.planDoor(late, 0);
        dock.arrive(late);
        dock.pass(300);
        int due = 295 * 99;
        Check.same("23 of the late one", dock.invoice(late, takes), due);
        Check.same("24 of the late one", dock.invoiceAnew(late, takes), due);
        Check.same("23 of the dock", dock.invoice(NONE, takes), 2 * 99);
        Check.same("24 of the dock", dock.invoiceAnew(NONE, takes), 2 * 99);
        Check.same("23 the other way", dock.invoice(takes, late), 0);
        Check.same("24 changes nothing", dock.now(), 600);
        Check.same("20 all", dock.waited(takes), 302);
        Check.same("24 once more", dock.invoiceAnew(late, takes), due);
    }

    private static void balances() {
        Crossdockery dock = powered();
        int late = dock.addLorry(true, 0, 7);
        int takes = dock.addLorry(false, 0, 2);
        int behind = dock.addLorry(true, 0, 50);
        dock.addTransfer(late, takes, 9);
        dock.addTransfer(behind, takes, 9);
        dock.planDoor(takes, 1);
        dock.planDoor(behind, 1);
        dock.arrive(takes);
        dock.arrive(behind);
        Check.same("25 nothing yet", dock.balance(late), 0L);
        dock.pass(8);
        dock.moveGang(1, -1);
        dock.pass(1);
        Check.same("25 owes both", dock.balance(late), -(3L * 2 + 8L * 50));
        Check.same("25 the dock", dock.balance(NONE), -(2L + 50L));
        Check.same("25 is owed by both", dock.balance(takes), 4L * 2);
        Check.same("25 is owed more", dock.balance(behind), 9L * 50);
    }

    private static void means() {
        Crossdockery dock = new Crossdockery();
        Check.thrown("26 no lorries", ArithmeticException.class, () -> dock.meanWait());
        dock.addLorry(true, 5, 1);
        Check.same("26 none has waited", dock.meanWait(), 0.0);
        int takes = lorryAtOnce(dock, false, 0);
        dock.addTransfer(0, takes, 1);
        dock.pass(7);
        Check.same("26 seven by two", dock.meanWait(), 3.5);
        dock.addLorry(true, 5, 1);
        Check.same("26 seven by three", dock.meanWait(), 7.0 / 3.0);
    }

    private static void shares() {
        Crossdockery dock = powered();
        Check.thrown("27 no lorries", ArithmeticException.class, () -> dock.dockShare());
        int late = dock.addLorry(true, 0, 1);
        int takes = lorryAtOnce(dock, false, 1);
        dock.addTransfer(late, takes, 1);
        Check.thrown("27 none has waited", ArithmeticException.class, () -> dock.dockShare());
        dock.pass(6);
        Check.same("27 own ones and those of a lorry", dock.dockShare(), 0.0f);
        dock.moveGang(1, -1);
        dock.pass(1);
        Check.same("27 one of seven", dock.dockShare(), 1.0f / 7.0f);
        int brings = lorryAtOnce(dock, true, 2);
        dock.addTransfer(brings, dock.addLorry(false, 0, 1), 1);
        dock.pass(3);
        Check.same("27 seven of thirteen", dock.dockShare(), 7.0f / 13.0f);
    }
}
