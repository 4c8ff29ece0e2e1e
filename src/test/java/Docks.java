/** Docks to try boundaries on, and calls that often go together. */
final class Docks {
    static final int BUSY_LORRIES = 6;
    static final int BUSY_TRANSFERS = 4;
    static final int BUSY_GANGS = 3;
    // What the lorries of the busy dock are at.
    static final int AT_DOOR_BRINGING = 0;
    static final int IN_YARD_TAKING = 1;
    static final int EXPECTED_BRINGING = 2;
    static final int LEFT_TAKING = 3;
    static final int AT_DOOR_TAKING = 4;
    static final int EXPECTED_TAKING = 5;

    private Docks() {
    }

    /** A dock with a lorry in each state, waits of all kinds and units under way, in the minute 9. */
    static Crossdockery busy() {
        Crossdockery dock = new Crossdockery();
        dock.addLorry(true, 0, 10);
        dock.addLorry(false, 0, 7);
        dock.addLorry(true, 7, 5);
        dock.addLorry(false, 1, 3);
        dock.addLorry(false, 4, 2);
        dock.addLorry(false, 3, 1);
        dock.addTransfer(0, 1, 20);
        dock.addTransfer(2, 4, 6);
        dock.addTransfer(0, 3, 9);
        dock.addTransfer(0, 4, 3);
        dock.moveGang(dock.addGang(2, 0, 2000), 0);
        dock.moveGang(dock.addGang(3, 1, 9), 2);
        dock.addGang(4, 5, 12);
        arriveAt(dock, 0, 0);
        arriveAt(dock, 3, 1);
        arriveAt(dock, 4, 2);
        dock.planDoor(5, 3);
        dock.pass(2);
        dock.sendOff(3);
        arriveAt(dock, 1, 0);
        dock.pass(7);
        return dock;
    }

    /** A dock to which nothing can be added: the even lorries bring, all are expected, none has a door. */
    static Crossdockery full() {
        Crossdockery dock = lorries(8);
        for (int i = 0; i < 16; i++) {
            dock.addTransfer(i % 4 * 2, i / 4 * 2 + 1, i + 1);
        }
        for (int i = 0; i < 4; i++) {
            dock.addGang(i + 1, 0, 2000);
        }
        return dock;
    }

    /** Even lorries bring, odd ones take; each has the minute 0 and the rate 1. */
    static Crossdockery lorries(int count) {
        Crossdockery dock = new Crossdockery();
        for (int i = 0; i < count; i++) {
            dock.addLorry(i % 2 == 0, 0, 1);
        }
        return dock;
    }

    static void arriveAt(Crossdockery dock, int lorry, int door) {
        dock.planDoor(lorry, door);
        dock.arrive(lorry);
    }

    /** A gang that always works there. */
    static int gangAt(Crossdockery dock, int speed, int door) {
        int gang = dock.addGang(speed, 0, 2000);
        dock.moveGang(gang, door);
        return gang;
    }

    static void passTo(Crossdockery dock, int minute) {
        for (int i = 0; i < 7 && dock.now() < minute; i++) {
            dock.pass(Math.min(300, minute - dock.now()));
        }
    }

    /** Lets a minute pass for each debtor that is due to the lorry. */
    static void debtors(String what, Crossdockery dock, int lorry, int... due) {
        for (int debtor : due) {
            dock.pass(1);
            Check.same(what + ", in the minute " + (dock.now() - 1), dock.debtor(lorry), debtor);
        }
    }
}
