/** Boundaries that the promises 1 to 6 name: a new object, lorries and transfers. */
final class BoundariesOfLorries {
    private static final int NONE = Crossdockery.NONE;

    private BoundariesOfLorries() {
    }

    static void run() {
        newObject();
        addLorry();
        addLorryOutOfRange();
        addLorryWhenFull();
        addTransfer();
        addTransferWithoutSuchLorries();
        addTransferOutOfRange();
        addTransferPastTheYard();
        planDoor();
        planDoorRefused();
        arrive();
        arriveRefused();
        sendOff();
        sendOffCounts();
        sendOffRefused();
    }

    // ---- promise 1

    private static void newObject() {
        Doc.says("Promise 1", "Creates a dock without lorries and gangs, at the minute 0.");
        Crossdockery dock = new Crossdockery();
        Check.same("now", dock.now(), 0);
        Check.thrown("no lorry", Check.INDEX, () -> dock.stateOf(0));
        Check.thrown("no transfer", Check.INDEX, () -> dock.unloaded(0));
        Check.thrown("no gang", Check.INDEX, () -> dock.moveGang(0, NONE));
        for (int i = 0; i < 4; i++) {
            int door = i;
            Check.same("no power", dock.power(door), 0);
            Check.thrown("none at a door", Check.ELEMENT, () -> dock.lorryAt(door));
            Check.thrown("none in a queue", Check.ELEMENT, () -> dock.inQueue(door, 0));
        }
        Check.same("left behind", dock.leftBehind(), 0);
        Check.same("balance", dock.balance(NONE), 0L);
        Check.same("ways", dock.ways(), 0);
        Check.same("least ways", dock.leastWays(), 0);
        Check.same("sound", dock.isSound(), true);
        Check.same("a first lorry", dock.addLorry(true, 0, 1), 0);
        Check.same("a first gang", dock.addGang(1, 0, 1), 0);
        Crossdockery other = new Crossdockery();
        dock.pass(5);
        Check.thrown("the lorry is not in another object", Check.INDEX, () -> other.stateOf(0));
        Check.thrown("nor the gang", Check.INDEX, () -> other.moveGang(0, 0));
        Check.same("nor its minutes", other.now(), 0);
    }

    // ---- promise 2

    private static void addLorry() {
        String here = "Promise 2";
        Doc.says(here, "Adds a lorry that is expected, without a planned door.");
        for (boolean isBringing : new boolean[] {true, false}) {
            Crossdockery dock = new Crossdockery();
            dock.addLorry(isBringing, 5, 5);
            Check.same("expected", dock.stateOf(0), 'e');
            Check.thrown("no planned door", Check.UNSUPPORTED, () -> dock.arrive(0));
            Check.same("no planned door", dock.planDoor(0, 0), NONE);
        }
        Doc.says(here, "isBringing: whether it brings goods; otherwise it takes them");
        Crossdockery kinds = new Crossdockery();
        kinds.addLorry(false, 0, 1);
        kinds.addLorry(true, 0, 1);
        Check.same("from the one that brings", kinds.addTransfer(1, 0, 1), 0);
        Check.thrown("not the other way", Check.ARGUMENT, () -> kinds.addTransfer(0, 1, 1));
        Doc.says(here, "Returns the number of the lorry.");
        Crossdockery dock = new Crossdockery();
        for (int number = 0; number < 8; number++) {
            Check.same("number", dock.addLorry(number % 2 == 0, number, 1 + number), number);
        }
    }

    private static void addLorryOutOfRange() {
        String here = "Promise 2";
        Doc.says(here, "planned: its planned minute, 0 to 1999");
        for (int planned : new int[] {0, 1, 1998, 1999}) {
            Crossdockery dock = new Crossdockery();
            Check.same("planned " + planned, dock.addLorry(true, planned, 1), 0);
            dock.addLorry(false, 0, 1);
            dock.addTransfer(0, 1, 1);
            Docks.arriveAt(dock, 0, 0);
            Docks.passTo(dock, 2000);
            Check.same("minutes before " + planned, dock.ownMinutes(0), planned);
        }
        Doc.says(here, "rate: its rate in cents for a minute, 1 to 99");
        for (int rate : new int[] {1, 2, 98, 99}) {
            Crossdockery dock = new Crossdockery();
            Check.same("rate " + rate, dock.addLorry(true, 0, rate), 0);
            dock.addLorry(false, 0, 1);
            dock.addTransfer(0, 1, 1);
            Docks.arriveAt(dock, 0, 0);
            dock.pass(1);
            Check.same("cents for a minute", dock.invoice(NONE, 0), rate);
        }
        Doc.says(here, "Throws IllegalArgumentException if a number is out of range");
        for (int planned : Refused.outside(0, 1999)) {
            Refused.call("planned " + planned, Docks::busy, Check.ARGUMENT, dock -> dock.addLorry(true, planned, 1));
            Refused.call("planned " + planned, Docks::busy, Check.ARGUMENT, dock -> dock.addLorry(false, planned, 1));
        }
        for (int rate : Refused.outside(1, 99)) {
            Refused.call("rate " + rate, Docks::busy, Check.ARGUMENT, dock -> dock.addLorry(true, 0, rate));
            Refused.call("rate " + rate, Docks::busy, Check.ARGUMENT, dock -> dock.addLorry(false, 1999, rate));
        }
        Refused.call("both", Docks::busy, Check.ARGUMENT, dock -> dock.addLorry(true, -1, 0));
    }

    private static void addLorryWhenFull() {
        Doc.says("Promise 2", "Throws IllegalStateException if there are 8 lorries");
        Check.same("with 7", Docks.lorries(7).addLorry(true, 0, 1), 7);
        Refused.call("with 8", () -> Docks.lorries(8), Check.STATE, dock -> dock.addLorry(true, 0, 1));
        Refused.call("with 8", () -> Docks.lorries(8), Check.STATE, dock -> dock.addLorry(false, 1999, 99));
        Refused.call("with 8 that have left", BoundariesOfLorries::eightThatHaveLeft, Check.STATE,
                dock -> dock.addLorry(true, 0, 1));
    }

    private static Crossdockery eightThatHaveLeft() {
        Crossdockery dock = Docks.lorries(8);
        for (int i = 0; i < 8; i++) {
            Docks.arriveAt(dock, i, i / 2);
        }
        Check.same("they leave", dock.pass(2), 8);
        return dock;
    }

    // ---- promise 3

    private static void addTransfer() {
        String here = "Promise 3";
        Doc.says(here, "Adds a transfer.");
        Crossdockery dock = Docks.lorries(4);
        Check.same("first", dock.addTransfer(2, 3, 7), 0);
        Check.same("nothing is unloaded", dock.unloaded(0), 0);
        Check.same("nothing is ready", dock.ready(0), 0);
        Check.same("nothing is loaded", dock.loaded(0), 0);
        Doc.says(here, "from: the number of the lorry that brings it");
        Docks.arriveAt(dock, 2, 0);
        Check.same("its units", dock.sendOff(2), 7);
        Doc.says(here, "to: the number of the lorry that takes it");
        Docks.arriveAt(dock, 3, 0);
        Check.same("its units", dock.sendOff(3), 7);
        Doc.says(here, "units: the number of units, 1 to 99");
        for (int units : new int[] {1, 2, 98, 99}) {
            Crossdockery two = Docks.lorries(2);
            Check.same("units " + units, two.addTransfer(0, 1, units), 0);
            Docks.arriveAt(two, 0, 0);
            Check.same("not unloaded", two.sendOff(0), units);
        }
        Doc.says(here, "Returns the number of the transfer.");
        Crossdockery many = Docks.lorries(8);
        for (int number = 0; number < 16; number++) {
            int from = number % 4 * 2;
            Check.same("number", many.addTransfer(from, 7 - from, 1 + number), number);
        }
    }

    private static void addTransferWithoutSuchLorries() {
        Doc.says("Promise 3", "Throws IndexOutOfBoundsException if there is no such lorry, for either");
        for (int lorry : Refused.outside(0, Docks.BUSY_LORRIES - 1)) {
            Refused.call("from " + lorry, Docks::busy, Check.INDEX, dock -> dock.addTransfer(lorry, 5, 1));
            Refused.call("to " + lorry, Docks::busy, Check.INDEX, dock -> dock.addTransfer(2, lorry, 1));
            Refused.call("both " + lorry, Docks::busy, Check.INDEX, dock -> dock.addTransfer(lorry, lorry, 1));
        }
        for (int lorry : Refused.outside(0, 7)) {
            Refused.call("from " + lorry, () -> Docks.lorries(8), Check.INDEX,
                    dock -> dock.addTransfer(lorry, 7, 1));
            Refused.call("to " + lorry, () -> Docks.lorries(8), Check.INDEX, dock -> dock.addTransfer(6, lorry, 1));
        }
        Refused.call("no lorries", Crossdockery::new, Check.INDEX, dock -> dock.addTransfer(0, 0, 1));
        Check.same("the first and the last", Docks.lorries(8).addTransfer(0, 7, 1), 0);
    }

    private static void addTransferOutOfRange() {
        Doc.says("Promise 3", "Throws IllegalArgumentException if the first lorry does not bring goods, the second one "
                + "does not take goods, or the number is out of range");
        Refused.call("first takes", () -> Docks.lorries(4), Check.ARGUMENT, dock -> dock.addTransfer(1, 3, 1));
        Refused.call("second brings", () -> Docks.lorries(4), Check.ARGUMENT, dock -> dock.addTransfer(0, 2, 1));
        Refused.call("both", () -> Docks.lorries(4), Check.ARGUMENT, dock -> dock.addTransfer(1, 0, 1));
        Refused.call("the same that brings", () -> Docks.lorries(4), Check.ARGUMENT,
                dock -> dock.addTransfer(0, 0, 1));
        Refused.call("the same that takes", () -> Docks.lorries(4), Check.ARGUMENT,
                dock -> dock.addTransfer(1, 1, 1));
        for (int units : Refused.outside(1, 99)) {
            Refused.call("units " + units, Docks::busy, Check.ARGUMENT, dock -> dock.addTransfer(2, 5, units));
            Refused.call("units " + units, Docks::busy, Check.ARGUMENT, dock -> dock.addTransfer(2, 1, units));
        }
    }

    private static void addTransferPastTheYard() {
        Doc.says("Promise 3", "Throws IllegalStateException if one of both lorries is at a door or has left, or there "
                + "are 16 transfers");
        Check.same("expected", Docks.busy().addTransfer(2, 5, 1), Docks.BUSY_TRANSFERS);
        Check.same("the second in the yard", Docks.busy().addTransfer(2, 1, 1), Docks.BUSY_TRANSFERS);
        Refused.call("first at a door", Docks::busy, Check.STATE, dock -> dock.addTransfer(0, 5, 1));
        Refused.call("second at a door", Docks::busy, Check.STATE, dock -> dock.addTransfer(2, 4, 1));
        Refused.call("second has left", Docks::busy, Check.STATE, dock -> dock.addTransfer(2, 3, 1));
        Refused.call("both", Docks::busy, Check.STATE, dock -> dock.addTransfer(0, 4, 1));
        Crossdockery dock = Docks.busy();
        Docks.arriveAt(dock, 2, 0);
        Check.same("the first in the yard", dock.addTransfer(2, 1, 1), Docks.BUSY_TRANSFERS);
        dock.sendOff(0);
        Check.thrown("first has left", Check.STATE, () -> dock.addTransfer(0, 5, 1));
        Check.same("with 15", transfers(15).addTransfer(0, 1, 1), 15);
        Refused.call("with 16", () -> transfers(16), Check.STATE, full -> full.addTransfer(0, 1, 1));
        Refused.call("first has left from the yard", BoundariesOfLorries::firstHasLeft, Check.STATE,
                left -> left.addTransfer(0, 1, 1));
    }

    private static Crossdockery transfers(int count) {
        Crossdockery dock = Docks.lorries(2);
        for (int i = 0; i < count; i++) {
            dock.addTransfer(0, 1, 3);
        }
        return dock;
    }

    private static Crossdockery firstHasLeft() {
        Crossdockery dock = Docks.lorries(2);
        Docks.arriveAt(dock, 0, 0);
        dock.sendOff(0);
        return dock;
    }

    // ---- promise 4

    private static void planDoor() {
        String here = "Promise 4";
        Doc.says(here, "Plans a door for a lorry, in place of the one that was planned.");
        Crossdockery dock = Docks.lorries(2);
        dock.addTransfer(0, 1, 1);
        dock.planDoor(0, 1);
        dock.planDoor(0, 2);
        dock.arrive(0);
        Check.same("in the queue", dock.inQueue(2, 0), 0);
        Check.thrown("not in the other one", Check.ELEMENT, () -> dock.inQueue(1, 0));
        dock.planDoor(0, 3);
        Check.same("in the queue, from the yard", dock.inQueue(3, 0), 0);
        Check.thrown("not in the other one", Check.ELEMENT, () -> dock.inQueue(2, 0));
        dock.pass(1);
        Check.same("at the door", dock.lorryAt(3), 0);
        Doc.says(here, "lorry: the number of the lorry");
        Crossdockery eight = Docks.lorries(8);
        for (int lorry = 0; lorry < 8; lorry++) {
            Check.same("first", eight.planDoor(lorry, lorry % 4), NONE);
        }
        for (int lorry = 0; lorry < 8; lorry++) {
            Check.same("second", eight.planDoor(lorry, 0), lorry % 4);
        }
        Doc.says(here, "door: the door");
        Doc.says(here, "Returns the door that was planned before the call, or NONE.");
        Crossdockery one = Docks.lorries(1);
        int before = NONE;
        for (int door : new int[] {0, 3, 3, 0, 1, 2}) {
            Check.same("planned before", one.planDoor(0, door), before);
            before = door;
        }
        one.arrive(0);
        Check.same("planned before, in the yard", one.planDoor(0, 0), 2);
        Check.same("planned in the yard", one.planDoor(0, 0), 0);
    }

    private static void planDoorRefused() {
        String here = "Promise 4";
        Doc.says(here, "Throws IndexOutOfBoundsException if there is no such lorry or no such door");
        for (int lorry : Refused.outside(0, Docks.BUSY_LORRIES - 1)) {
            Refused.call("lorry " + lorry, Docks::busy, Check.INDEX, dock -> dock.planDoor(lorry, 0));
            Refused.call("lorry and door", Docks::busy, Check.INDEX, dock -> dock.planDoor(lorry, 4));
        }
        for (int door : Refused.outside(0, 3)) {
            Refused.call("expected, door " + door, Docks::busy, Check.INDEX, dock -> dock.planDoor(2, door));
            Refused.call("in the yard, door " + door, Docks::busy, Check.INDEX, dock -> dock.planDoor(1, door));
        }
        Refused.call("no lorries", Crossdockery::new, Check.INDEX, dock -> dock.planDoor(0, 0));
        Doc.says(here, "Throws IllegalStateException if the lorry is at a door or has left");
        Check.same("expected", Docks.busy().planDoor(5, 2), 3);
        Check.same("in the yard", Docks.busy().planDoor(1, 2), 0);
        for (int door = 0; door < 4; door++) {
            int some = door;
            Refused.call("at a door", Docks::busy, Check.STATE, dock -> dock.planDoor(0, some));
            Refused.call("has left", Docks::busy, Check.STATE, dock -> dock.planDoor(3, some));
        }
    }

    // ---- promise 5

    private static void arrive() {
        String here = "Promise 5";
        Doc.says(here, "Reports that a lorry arrives now; it is in the yard then.");
        Crossdockery dock = new Crossdockery();
        dock.addLorry(true, 4, 1);
        dock.addLorry(false, 0, 1);
        dock.addLorry(true, 0, 1);
        dock.addTransfer(0, 1, 1);
        dock.addTransfer(2, 1, 1);
        Docks.gangAt(dock, 1, 0);
        dock.pass(4);
        Docks.arriveAt(dock, 0, 0);
        Check.same("in the yard", dock.stateOf(0), 'y');
        Docks.arriveAt(dock, 2, 0);
        dock.pass(1);
        Check.same("it arrived now, at its planned minute", dock.debtor(2), NONE);
        Doc.says(here, "lorry: the number of the lorry");
        Doc.says(here, "Returns the number of lorries in the yard after the call.");
        Crossdockery eight = Docks.lorries(8);
        for (int lorry = 0; lorry < 8; lorry++) {
            int number = 7 - lorry;
            eight.planDoor(number, lorry % 4);
            Check.same("in the yard", eight.arrive(number), lorry + 1);
            Check.same("state", eight.stateOf(number), 'y');
        }
        Crossdockery some = Docks.lorries(6);
        some.addTransfer(0, 1, 1);
        Docks.arriveAt(some, 0, 0);
        Docks.arriveAt(some, 2, 0);
        some.pass(1);
        some.planDoor(3, 3);
        Check.same("not those at doors", some.arrive(3), 2);
        some.sendOff(2);
        some.planDoor(4, 1);
        Check.same("not those that left", some.arrive(4), 2);
        some.pass(1);
        some.planDoor(5, 0);
        Check.same("itself alone", some.arrive(5), 1);
    }

    private static void arriveRefused() {
        String here = "Promise 5";
        Doc.says(here, "Throws IndexOutOfBoundsException if there is no such lorry");
        for (int lorry : Refused.outside(0, Docks.BUSY_LORRIES - 1)) {
            Refused.call("lorry " + lorry, Docks::busy, Check.INDEX, dock -> dock.arrive(lorry));
        }
        Refused.call("no lorries", Crossdockery::new, Check.INDEX, dock -> dock.arrive(0));
        Check.same("the last lorry", Docks.busy().arrive(5), 2);
        Doc.says(here, "Throws IllegalStateException if it is not expected");
        Refused.call("in the yard", Docks::busy, Check.STATE, dock -> dock.arrive(1));
        Refused.call("at a door", Docks::busy, Check.STATE, dock -> dock.arrive(0));
        Refused.call("has left", Docks::busy, Check.STATE, dock -> dock.arrive(3));
        Doc.says(here, "Throws UnsupportedOperationException if no door is planned for it");
        Refused.call("no door", Docks::busy, Check.UNSUPPORTED, dock -> dock.arrive(2));
        for (int door = 0; door < 4; door++) {
            Crossdockery dock = Docks.busy();
            dock.planDoor(2, door);
            Check.same("with door " + door, dock.arrive(2), 2);
        }
    }

    // ---- promise 6

    private static void sendOff() {
        String here = "Promise 6";
        Doc.says(here, "Lets a lorry leave now, from the yard or from a door, whatever is not unloaded or loaded.");
        Crossdockery yard = Docks.busy();
        Check.same("from the yard", yard.sendOff(1), 20);
        Check.same("it has left", yard.stateOf(1), 'l');
        Check.same("now", yard.leftAt(1), 9);
        Check.thrown("out of the queue", Check.ELEMENT, () -> yard.inQueue(0, 0));
        Check.same("the one at the door stays", yard.lorryAt(0), 0);
        Crossdockery door = Docks.busy();
        Check.same("from a door", door.sendOff(0), 32 - 18);
        Check.same("it has left", door.stateOf(0), 'l');
        Check.same("now", door.leftAt(0), 9);
        Check.thrown("the door is free now", Check.ELEMENT, () -> door.lorryAt(0));
        Check.same("the queue is as it was", door.inQueue(0, 0), 1);
        Check.same("units unloaded stay", door.unloaded(0), 18);
        door.pass(1);
        Check.same("the next gets the door", door.lorryAt(0), 1);
        Check.same("no more is unloaded", door.unloaded(0), 18);
        Doc.says(here, "lorry: the number of the lorry");
        Check.same("another", Docks.busy().sendOff(4), 9);
    }

    private static void sendOffCounts() {
        Doc.says("Promise 6", "Returns the number of units of its transfers that are not unloaded, if it brings goods, "
                + "or not loaded, if it takes goods.");
        for (int minutes = 0; minutes < 5; minutes++) {
            Crossdockery dock = Docks.lorries(4);
            dock.addTransfer(0, 1, 3);
            dock.addTransfer(2, 1, 50);
            dock.addTransfer(0, 3, 6);
            Docks.gangAt(dock, 2, 0);
            Docks.arriveAt(dock, 0, 0);
            Docks.passTo(dock, minutes);
            Check.same("not unloaded after " + minutes, dock.sendOff(0), 9 - 2 * minutes);
        }
        for (int minutes = 0; minutes < 5; minutes++) {
            Crossdockery dock = Docks.lorries(4);
            dock.addTransfer(0, 1, 3);
            dock.addTransfer(0, 3, 50);
            dock.addTransfer(2, 1, 6);
            Docks.gangAt(dock, 9, 0);
            Docks.gangAt(dock, 9, 1);
            Docks.arriveAt(dock, 0, 0);
            Docks.arriveAt(dock, 2, 1);
            dock.pass(1);
            Docks.gangAt(dock, 2, 2);
            Docks.arriveAt(dock, 1, 2);
            Docks.passTo(dock, 1 + minutes);
            Check.same("not loaded after " + minutes, dock.sendOff(1), 9 - 2 * minutes);
        }
        Crossdockery none = Docks.lorries(2);
        Docks.arriveAt(none, 0, 0);
        Docks.arriveAt(none, 1, 0);
        Check.same("brings, no transfers", none.sendOff(0), 0);
        Check.same("takes, no transfers", none.sendOff(1), 0);
        for (int lorry = 0; lorry < 2; lorry++) {
            Crossdockery most = Docks.lorries(2);
            for (int i = 0; i < 16; i++) {
                most.addTransfer(0, 1, 99);
            }
            Docks.arriveAt(most, lorry, 0);
            Check.same("the most", most.sendOff(lorry), 16 * 99);
        }
    }

    private static void sendOffRefused() {
        String here = "Promise 6";
        Doc.says(here, "Throws IndexOutOfBoundsException if there is no such lorry");
        for (int lorry : Refused.outside(0, Docks.BUSY_LORRIES - 1)) {
            Refused.call("lorry " + lorry, Docks::busy, Check.INDEX, dock -> dock.sendOff(lorry));
        }
        Refused.call("no lorries", Crossdockery::new, Check.INDEX, dock -> dock.sendOff(0));
        Doc.says(here, "Throws IllegalStateException if it is neither in the yard nor at a door");
        Refused.call("expected, no door", Docks::busy, Check.STATE, dock -> dock.sendOff(2));
        Refused.call("expected, with a door", Docks::busy, Check.STATE, dock -> dock.sendOff(5));
        Refused.call("sent off", Docks::busy, Check.STATE, dock -> dock.sendOff(3));
        Refused.call("left by itself", BoundariesOfLorries::eightThatHaveLeft, Check.STATE, dock -> dock.sendOff(0));
    }
}
