/** Boundaries that the promises 12 to 19 name: where lorries and goods are. */
final class BoundariesOfGoods {
    private static final String NO_LORRY = "Throws IndexOutOfBoundsException if there is no such lorry";
    private static final String NO_DOOR = "Throws IndexOutOfBoundsException if there is no such door";
    private static final String NO_TRANSFER = "Throws IndexOutOfBoundsException if there is no such transfer";

    private BoundariesOfGoods() {
    }

    static void run() {
        stateOf();
        lorryAt();
        inQueue();
        inQueueRefused();
        unloaded();
        ready();
        loaded();
        leftAt();
        leftAtRefused();
        leftBehind();
    }

    private static void stateOf() {
        String here = "Promise 12";
        Doc.says(here, "Returns how far a lorry is.");
        Doc.says(here, "Returns 'e', 'y', 'd' or 'l'.");
        Doc.says(here, "lorry: the number of the lorry");
        Crossdockery dock = Docks.busy();
        char[] due = {'d', 'y', 'e', 'l', 'd', 'e'};
        for (int lorry = 0; lorry < due.length; lorry++) {
            Check.same("lorry " + lorry, dock.stateOf(lorry), due[lorry]);
        }
        dock.planDoor(2, 0);
        Check.same("expected with a door", dock.stateOf(2), 'e');
        dock.sendOff(1);
        Check.same("sent off", dock.stateOf(1), 'l');
        dock.pass(6);
        Check.same("one unit left", dock.stateOf(0), 'd');
        dock.pass(1);
        Check.same("left by itself", dock.stateOf(0), 'l');
        Doc.says(here, NO_LORRY);
        for (int lorry : Refused.outside(0, Docks.BUSY_LORRIES - 1)) {
            Refused.call("lorry " + lorry, Docks::busy, Check.INDEX, busy -> busy.stateOf(lorry));
        }
        for (int lorry : Refused.outside(0, 7)) {
            Refused.call("lorry " + lorry, Docks::full, Check.INDEX, full -> full.stateOf(lorry));
        }
        Refused.call("no lorries", Crossdockery::new, Check.INDEX, empty -> empty.stateOf(0));
        Check.same("the last of eight", Docks.full().stateOf(7), 'e');
    }

    private static void lorryAt() {
        String here = "Promise 13";
        Doc.says(here, "Returns the lorry at a door.");
        Doc.says(here, "door: the door");
        Doc.says(here, "Returns the number of the lorry.");
        Crossdockery dock = Docks.lorries(8);
        dock.addTransfer(0, 7, 1);
        dock.addTransfer(2, 5, 1);
        int[] due = {7, 2, 5, 0};
        for (int door = 0; door < 4; door++) {
            Docks.arriveAt(dock, due[door], door);
        }
        dock.pass(1);
        for (int door = 0; door < 4; door++) {
            Check.same("door " + door, dock.lorryAt(door), due[door]);
        }
        Doc.says(here, NO_DOOR);
        for (int door : Refused.outside(0, 3)) {
            Refused.call("door " + door, Docks::busy, Check.INDEX, busy -> busy.lorryAt(door));
            Refused.call("door " + door, Crossdockery::new, Check.INDEX, empty -> empty.lorryAt(door));
        }
        Doc.says(here, "Throws NoSuchElementException if there is no lorry at it");
        for (int i = 0; i < 4; i++) {
            int door = i;
            Refused.call("a new object", Crossdockery::new, Check.ELEMENT, empty -> empty.lorryAt(door));
            Refused.call("only planned or in the yard", () -> inTheYard(door), Check.ELEMENT,
                    yard -> yard.lorryAt(door));
            dock.sendOff(due[door]);
            Check.thrown("sent off from " + door, Check.ELEMENT, () -> dock.lorryAt(door));
        }
        Crossdockery leaving = inTheYard(1);
        leaving.pass(1);
        Check.thrown("left in the minute", Check.ELEMENT, () -> leaving.lorryAt(1));
    }

    private static Crossdockery inTheYard(int door) {
        Crossdockery dock = Docks.lorries(2);
        Docks.arriveAt(dock, 0, door);
        dock.planDoor(1, door);
        return dock;
    }

    private static void inQueue() {
        String here = "Promise 14";
        Doc.says(here, "Returns a lorry of the queue of a door.");
        Doc.says(here, "door: the door");
        Doc.says(here, "place: the place in the queue, from 0");
        Doc.says(here, "Returns the number of the lorry.");
        for (int i = 0; i < 4; i++) {
            int door = i;
            Crossdockery dock = Docks.lorries(8);
            for (int lorry = 7; lorry >= 0; lorry--) {
                Docks.arriveAt(dock, lorry, door);
                int last = 7 - lorry;
                Check.same("last of door " + door, dock.inQueue(door, last), 7);
                Check.same("first of door " + door, dock.inQueue(door, 0), lorry);
                Check.thrown("behind the last", Check.ELEMENT, () -> dock.inQueue(door, last + 1));
            }
            for (int place = 0; place < 8; place++) {
                Check.same("eight at door " + door, dock.inQueue(door, place), place);
            }
        }
        Crossdockery late = Docks.lorries(8);
        for (int lorry = 0; lorry < 8; lorry += 2) {
            late.addTransfer(lorry, lorry + 1, 1);
        }
        for (int lorry = 7; lorry >= 0; lorry--) {
            Docks.arriveAt(late, lorry, lorry == 7 ? 3 : 2);
            late.pass(1);
        }
        Check.same("the first got the door", late.lorryAt(2), 6);
        for (int place = 0; place < 6; place++) {
            Check.same("by minutes", late.inQueue(2, place), 5 - place);
        }
        Check.thrown("no seventh", Check.ELEMENT, () -> late.inQueue(2, 6));
    }

    private static void inQueueRefused() {
        String here = "Promise 14";
        Doc.says(here, NO_DOOR);
        for (int door : Refused.outside(0, 3)) {
            Refused.call("door " + door, Docks::busy, Check.INDEX, dock -> dock.inQueue(door, 0));
            Refused.call("door and place", Docks::busy, Check.INDEX, dock -> dock.inQueue(door, 8));
            Refused.call("door and place", Docks::busy, Check.INDEX, dock -> dock.inQueue(door, -1));
        }
        Doc.says(here, "Throws NoSuchElementException if there is no such place in the queue");
        Check.same("one place", Docks.busy().inQueue(0, 0), 1);
        for (int place : Refused.outside(0, 0)) {
            Refused.call("place " + place, Docks::busy, Check.ELEMENT, dock -> dock.inQueue(0, place));
        }
        for (int door = 1; door < 4; door++) {
            int empty = door;
            Refused.call("an empty queue", Docks::busy, Check.ELEMENT, dock -> dock.inQueue(empty, 0));
            Refused.call("an empty queue", Docks::busy, Check.ELEMENT, dock -> dock.inQueue(empty, -1));
        }
        for (int place : Refused.outside(0, 7)) {
            Refused.call("place " + place + " of eight", BoundariesOfGoods::eightInTheYard, Check.ELEMENT,
                    dock -> dock.inQueue(3, place));
        }
    }

    private static Crossdockery eightInTheYard() {
        Crossdockery dock = Docks.lorries(8);
        for (int lorry = 0; lorry < 8; lorry++) {
            Docks.arriveAt(dock, lorry, 3);
        }
        return dock;
    }

    // ---- promises 15 to 17

    /** What all three refuse alike. */
    private static void noSuchTransfer(String here) {
        Doc.says(here, "transfer: the number of the transfer");
        Doc.says(here, "Returns the number of units.");
        Doc.says(here, NO_TRANSFER);
    }

    /** Lorry 0 brings 5 units for lorry 1 as transfer 0 and 9 units for lorry 3 as transfer 15. */
    private static Crossdockery sixteenTransfers() {
        Crossdockery dock = Docks.lorries(4);
        dock.addTransfer(0, 1, 5);
        for (int i = 1; i < 15; i++) {
            dock.addTransfer(2, 3, i);
        }
        dock.addTransfer(0, 3, 9);
        Docks.gangAt(dock, 3, 0);
        Docks.gangAt(dock, 2, 2);
        dock.planDoor(1, 2);
        Docks.arriveAt(dock, 0, 0);
        return dock;
    }

    private static void unloaded() {
        String here = "Promise 15";
        Doc.says(here, "Returns how many units of a transfer are unloaded.");
        noSuchTransfer(here);
        Crossdockery dock = sixteenTransfers();
        int[] first = {0, 3, 5, 5, 5, 5, 5};
        int[] last = {0, 0, 1, 4, 7, 9, 9};
        for (int minute = 0; minute < first.length; minute++) {
            Check.same("first in " + minute, dock.unloaded(0), first[minute]);
            Check.same("last in " + minute, dock.unloaded(15), last[minute]);
            Check.same("another lorry's", dock.unloaded(14), 0);
            dock.pass(1);
        }
        dock.arrive(1);
        dock.pass(3);
        Check.same("loaded ones are unloaded ones", dock.unloaded(0), 5);
        for (int transfer : Refused.outside(0, Docks.BUSY_TRANSFERS - 1)) {
            Refused.call("transfer " + transfer, Docks::busy, Check.INDEX, busy -> busy.unloaded(transfer));
        }
        for (int transfer : Refused.outside(0, 15)) {
            Refused.call("transfer " + transfer, Docks::full, Check.INDEX, full -> full.unloaded(transfer));
        }
        Refused.call("no transfers", Crossdockery::new, Check.INDEX, empty -> empty.unloaded(0));
        Check.same("the last of sixteen", Docks.full().unloaded(15), 0);
    }

    private static void ready() {
        String here = "Promise 16";
        Doc.says(here, "Returns how many units of a transfer are ready and not loaded.");
        noSuchTransfer(here);
        Crossdockery dock = sixteenTransfers();
        int[] first = {0, 0, 0, 3, 5, 5};
        int[] last = {0, 0, 1, 4, 7, 9};
        for (int minute = 0; minute < first.length; minute++) {
            Check.same("first in " + minute, dock.ready(0), first[minute]);
            Check.same("last in " + minute, dock.ready(15), last[minute]);
            dock.pass(1);
        }
        dock.arrive(1);
        for (int due : new int[] {3, 1, 0, 0}) {
            dock.pass(1);
            Check.same("not those that are loaded", dock.ready(0), due);
            Check.same("the others stay ready", dock.ready(15), 9);
        }
        Docks.arriveAt(dock, 3, 3);
        dock.sendOff(3);
        dock.pass(1);
        Check.same("ready when the lorry that takes them has left", dock.ready(15), 9);
        for (int transfer : Refused.outside(0, Docks.BUSY_TRANSFERS - 1)) {
            Refused.call("transfer " + transfer, Docks::busy, Check.INDEX, busy -> busy.ready(transfer));
        }
        for (int transfer : Refused.outside(0, 15)) {
            Refused.call("transfer " + transfer, Docks::full, Check.INDEX, full -> full.ready(transfer));
        }
        Refused.call("no transfers", Crossdockery::new, Check.INDEX, empty -> empty.ready(0));
        Check.same("the last of sixteen", Docks.full().ready(15), 0);
    }

    private static void loaded() {
        String here = "Promise 17";
        Doc.says(here, "Returns how many units of a transfer are loaded.");
        noSuchTransfer(here);
        Crossdockery dock = sixteenTransfers();
        dock.pass(1);
        dock.arrive(1);
        int[] first = {0, 0, 0, 2, 4, 5, 5};
        for (int i = 0; i < first.length; i++) {
            Check.same("first in " + dock.now(), dock.loaded(0), first[i]);
            Check.same("last in " + dock.now(), dock.loaded(15), 0);
            dock.pass(1);
        }
        Check.same("left when all were loaded", dock.leftAt(1), 6);
        for (int transfer : Refused.outside(0, Docks.BUSY_TRANSFERS - 1)) {
            Refused.call("transfer " + transfer, Docks::busy, Check.INDEX, busy -> busy.loaded(transfer));
        }
        for (int transfer : Refused.outside(0, 15)) {
            Refused.call("transfer " + transfer, Docks::full, Check.INDEX, full -> full.loaded(transfer));
        }
        Refused.call("no transfers", Crossdockery::new, Check.INDEX, empty -> empty.loaded(0));
        Check.same("the last of sixteen", Docks.full().loaded(15), 0);
    }

    // ---- promises 18 and 19

    private static void leftAt() {
        String here = "Promise 18";
        Doc.says(here, "Returns the minute at which a lorry left, that is, the present minute behind the minute in which "
                + "it left, or when it was sent off.");
        Doc.says(here, "lorry: the number of the lorry");
        Doc.says(here, "Returns the minute.");
        Crossdockery dock = Docks.lorries(8);
        dock.addTransfer(0, 1, 1);
        Docks.arriveAt(dock, 7, 0);
        dock.sendOff(7);
        Check.same("sent off at first", dock.leftAt(7), 0);
        Docks.arriveAt(dock, 2, 0);
        dock.pass(1);
        Check.same("behind the first minute", dock.leftAt(2), 1);
        Docks.arriveAt(dock, 4, 0);
        Docks.arriveAt(dock, 6, 0);
        dock.pass(10);
        Check.same("in the first of many minutes", dock.leftAt(4), 2);
        Check.same("in the second of many minutes", dock.leftAt(6), 3);
        Docks.arriveAt(dock, 0, 3);
        dock.pass(4);
        dock.sendOff(0);
        Check.same("sent off from a door", dock.leftAt(0), 15);
        Docks.passTo(dock, 1999);
        Docks.arriveAt(dock, 3, 1);
        Docks.arriveAt(dock, 5, 1);
        dock.pass(1);
        Check.same("behind the last minute", dock.leftAt(3), 2000);
        dock.sendOff(5);
        Check.same("sent off at the end", dock.leftAt(5), 2000);
        Check.same("the first all the same", dock.leftAt(7), 0);
    }

    private static void leftAtRefused() {
        String here = "Promise 18";
        Doc.says(here, NO_LORRY);
        for (int lorry : Refused.outside(0, Docks.BUSY_LORRIES - 1)) {
            Refused.call("lorry " + lorry, Docks::busy, Check.INDEX, busy -> busy.leftAt(lorry));
        }
        Refused.call("no lorries", Crossdockery::new, Check.INDEX, empty -> empty.leftAt(0));
        Refused.call("lorry 8", Docks::full, Check.INDEX, full -> full.leftAt(8));
        Doc.says(here, "Throws NoSuchElementException if it has not left");
        Check.same("has left", Docks.busy().leftAt(Docks.LEFT_TAKING), 2);
        int[] others = {Docks.AT_DOOR_BRINGING, Docks.IN_YARD_TAKING, Docks.EXPECTED_BRINGING, Docks.AT_DOOR_TAKING,
            Docks.EXPECTED_TAKING};
        for (int lorry : others) {
            Refused.call("lorry " + lorry, Docks::busy, Check.ELEMENT, busy -> busy.leftAt(lorry));
        }
        Refused.call("the last of eight", Docks::full, Check.ELEMENT, full -> full.leftAt(7));
    }

    private static void leftBehind() {
        String here = "Promise 19";
        Doc.says(here, "Returns the number of units that are left behind: those of transfers that are not loaded, whether "
                + "they are unloaded or not, while the lorry that takes them has left.");
        Doc.says(here, "Returns the number of units.");
        Crossdockery dock = Docks.lorries(4);
        Check.same("no transfers", dock.leftBehind(), 0);
        dock.addTransfer(0, 1, 9);
        dock.addTransfer(2, 1, 5);
        dock.addTransfer(0, 3, 99);
        Docks.gangAt(dock, 4, 0);
        Docks.gangAt(dock, 3, 1);
        Docks.arriveAt(dock, 0, 0);
        Docks.arriveAt(dock, 1, 1);
        dock.pass(3);
        Check.same("loaded", dock.loaded(0), 3);
        Check.same("it has not left", dock.leftBehind(), 0);
        Docks.arriveAt(dock, 2, 3);
        dock.sendOff(2);
        Check.same("the lorry that brings has left", dock.leftBehind(), 0);
        dock.sendOff(1);
        Check.same("unloaded or not, but not loaded", dock.leftBehind(), 14 - 3);
        dock.pass(1);
        Check.same("unloaded or not, later", dock.leftBehind(), 11);
        Docks.arriveAt(dock, 3, 2);
        Check.same("the other one in the yard", dock.leftBehind(), 11);
        dock.sendOff(3);
        Check.same("the other one too", dock.leftBehind(), 11 + 99);
        allLoadedOrNone();
    }

    private static void allLoadedOrNone() {
        Crossdockery loaded = Docks.lorries(2);
        loaded.addTransfer(0, 1, 2);
        Docks.gangAt(loaded, 1, 0);
        Docks.arriveAt(loaded, 0, 0);
        loaded.pass(2);
        Docks.arriveAt(loaded, 1, 0);
        loaded.pass(1);
        Check.same("one is not loaded, it is there", loaded.leftBehind(), 0);
        Check.same("left with all", loaded.pass(1), 1);
        Check.same("all are loaded", loaded.leftBehind(), 0);
        Crossdockery most = Docks.full();
        for (int lorry = 0; lorry < 8; lorry++) {
            Docks.arriveAt(most, lorry, 0);
            most.sendOff(lorry);
        }
        Check.same("all of sixteen", most.leftBehind(), 16 * 17 / 2);
        Crossdockery one = Docks.lorries(2);
        for (int i = 0; i < 16; i++) {
            one.addTransfer(0, 1, 99);
        }
        Docks.arriveAt(one, 1, 0);
        one.sendOff(1);
        Check.same("the most", one.leftBehind(), 16 * 99);
    }
}
