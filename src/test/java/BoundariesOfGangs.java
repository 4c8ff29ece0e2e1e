/** Boundaries that the promises 7 to 11 name: gangs and minutes. */
final class BoundariesOfGangs {
    private static final int NONE = Crossdockery.NONE;

    private BoundariesOfGangs() {
    }

    static void run() {
        addGang();
        addGangOutOfRange();
        addGangWhenFull();
        moveGang();
        moveGangRefused();
        pass();
        passCountsThoseThatLeave();
        passRefused();
        now();
        power();
    }

    // ---- promise 7

    private static void addGang() {
        String here = "Promise 7";
        Doc.says(here, "Adds a gang, which is at no door.");
        Crossdockery dock = new Crossdockery();
        dock.addGang(9, 0, 2000);
        for (int door = 0; door < 4; door++) {
            Check.same("no power", dock.power(door), 0);
        }
        Check.same("no door", dock.moveGang(0, NONE), NONE);
        Doc.says(here, "Returns the number of the gang.");
        Crossdockery four = new Crossdockery();
        for (int number = 0; number < 4; number++) {
            Check.same("number", four.addGang(1 + number, number, 9 + number), number);
        }
        Doc.says(here, "speed: the number of units that it handles in a minute, 1 to 9");
        for (int speed : new int[] {1, 2, 8, 9}) {
            Crossdockery one = Docks.lorries(2);
            one.addTransfer(0, 1, 99);
            Check.same("speed " + speed, one.addGang(speed, 0, 2000), 0);
            one.moveGang(0, 0);
            Docks.arriveAt(one, 0, 0);
            one.pass(1);
            Check.same("units in a minute", one.unloaded(0), speed);
            one.pass(1);
            Check.same("units in the next one", one.unloaded(0), 2 * speed);
        }
        Doc.says(here, "from: the first minute of its shift, 0 to 1999");
        for (int from : new int[] {0, 1, 1998, 1999}) {
            Crossdockery one = new Crossdockery();
            one.moveGang(one.addGang(3, from, 2000), 2);
            Docks.passTo(one, from - 1);
            Check.same("before " + from, from > 0 ? one.power(2) : 0, 0);
            Docks.passTo(one, from);
            Check.same("from " + from, one.power(2), 3);
        }
        Doc.says(here, "to: the end of its shift, greater than the first minute and at most 2000");
        for (int to : new int[] {1, 2, 1999, 2000}) {
            Crossdockery one = new Crossdockery();
            one.moveGang(one.addGang(3, to - 1, to), 2);
            Docks.passTo(one, to - 1);
            Check.same("before " + to, one.power(2), 3);
            one.pass(1);
            Check.same("the end " + to, one.power(2), 0);
        }
    }

    private static void addGangOutOfRange() {
        Doc.says("Promise 7", "Throws IllegalArgumentException if a number is out of range");
        for (int speed : Refused.outside(1, 9)) {
            Refused.call("speed " + speed, Docks::busy, Check.ARGUMENT, dock -> dock.addGang(speed, 0, 2000));
        }
        for (int from : Refused.outside(0, 1999)) {
            Refused.call("from " + from, Docks::busy, Check.ARGUMENT, dock -> dock.addGang(1, from, 2000));
            Refused.call("from " + from, Docks::busy, Check.ARGUMENT, dock -> dock.addGang(1, from, 2001));
            Refused.call("from " + from, Docks::busy, Check.ARGUMENT, dock -> dock.addGang(1, from, from));
        }
        Refused.call("from -1 to 1", Docks::busy, Check.ARGUMENT, dock -> dock.addGang(1, -1, 1));
        for (int from : new int[] {0, 5, 1999}) {
            for (int to : Refused.outside(from + 1, 2000)) {
                Refused.call("from " + from + " to " + to, Docks::busy, Check.ARGUMENT,
                        dock -> dock.addGang(9, from, to));
            }
            Refused.call("backwards", Docks::busy, Check.ARGUMENT, dock -> dock.addGang(9, from, from - 1));
            Check.same("the shortest", Docks.busy().addGang(9, from, from + 1), Docks.BUSY_GANGS);
            Check.same("the longest", Docks.busy().addGang(9, from, 2000), Docks.BUSY_GANGS);
        }
        Refused.call("all", Docks::busy, Check.ARGUMENT, dock -> dock.addGang(0, -1, -1));
    }

    private static void addGangWhenFull() {
        Doc.says("Promise 7", "Throws IllegalStateException if there are 4 gangs");
        Check.same("with 3", gangs(3).addGang(1, 0, 1), 3);
        Refused.call("with 4", () -> gangs(4), Check.STATE, dock -> dock.addGang(1, 0, 1));
        Refused.call("with 4", () -> gangs(4), Check.STATE, dock -> dock.addGang(9, 1999, 2000));
        Refused.call("with 4 whose shifts have ended", BoundariesOfGangs::endedGangs, Check.STATE,
                dock -> dock.addGang(1, 0, 1));
    }

    private static Crossdockery gangs(int count) {
        Crossdockery dock = new Crossdockery();
        for (int i = 0; i < count; i++) {
            dock.addGang(1 + i, i, 9 + i);
        }
        return dock;
    }

    private static Crossdockery endedGangs() {
        Crossdockery dock = gangs(4);
        dock.pass(20);
        return dock;
    }

    // ---- promise 8

    private static void moveGang() {
        String here = "Promise 8";
        Doc.says(here, "Moves a gang to a door, or away from all doors.");
        Doc.says(here, "gang: the number of the gang");
        Crossdockery dock = gangs(4);
        dock.pass(5);
        for (int gang = 0; gang < 4; gang++) {
            Check.same("first", dock.moveGang(gang, gang), NONE);
            Check.same("there", dock.power(gang), 1 + gang);
        }
        for (int gang = 0; gang < 4; gang++) {
            Check.same("away", dock.moveGang(gang, NONE), gang);
            Check.same("not there", dock.power(gang), 0);
        }
        Doc.says(here, "door: the door, or NONE");
        Doc.says(here, "Returns the door at which it was before the call, or NONE.");
        Crossdockery one = gangs(1);
        int before = NONE;
        for (int door : new int[] {NONE, 0, 3, 3, NONE, NONE, 1, 2, 0, NONE, 3}) {
            Check.same("before", one.moveGang(0, door), before);
            for (int other = 0; other < 4; other++) {
                Check.same("power of " + other, one.power(other), other == door ? 1 : 0);
            }
            before = door;
        }
    }

    private static void moveGangRefused() {
        Doc.says("Promise 8", "Throws IndexOutOfBoundsException if there is no such gang, or the door is neither a door "
                + "nor NONE");
        for (int gang : Refused.outside(0, Docks.BUSY_GANGS - 1)) {
            Refused.call("gang " + gang, Docks::busy, Check.INDEX, dock -> dock.moveGang(gang, 0));
            Refused.call("gang " + gang, Docks::busy, Check.INDEX, dock -> dock.moveGang(gang, NONE));
            Refused.call("gang " + gang, Docks::busy, Check.INDEX, dock -> dock.moveGang(gang, 4));
        }
        for (int door : Refused.outside(NONE, 3)) {
            Refused.call("door " + door, Docks::busy, Check.INDEX, dock -> dock.moveGang(0, door));
            Refused.call("door " + door, Docks::busy, Check.INDEX, dock -> dock.moveGang(2, door));
        }
        Refused.call("no gangs", Crossdockery::new, Check.INDEX, dock -> dock.moveGang(0, 0));
        Refused.call("no gangs", Crossdockery::new, Check.INDEX, dock -> dock.moveGang(0, NONE));
        Check.same("the last gang", Docks.busy().moveGang(2, 3), NONE);
    }

    // ---- promise 9

    private static void pass() {
        String here = "Promise 9";
        Doc.says(here, "Lets minutes pass, one after the other.");
        Crossdockery once = Docks.busy();
        once.pass(7);
        Crossdockery oneByOne = Docks.busy();
        for (int i = 0; i < 7; i++) {
            oneByOne.pass(1);
        }
        Picture.same("seven at once", Picture.of(once), Picture.of(oneByOne));
        Doc.says(here, "minutes: the number of minutes, 1 to 300");
        for (int minutes : new int[] {1, 2, 299, 300}) {
            Crossdockery dock = Docks.busy();
            dock.pass(minutes);
            Check.same("minutes " + minutes, dock.now(), 9 + minutes);
        }
        Doc.says(here, "Throws IllegalArgumentException if the number is out of range");
        for (int minutes : Refused.outside(1, 300)) {
            Refused.call("minutes " + minutes, Docks::busy, Check.ARGUMENT, dock -> dock.pass(minutes));
            Refused.call("minutes " + minutes, () -> at(2000), Check.ARGUMENT, dock -> dock.pass(minutes));
        }
        Refused.call("minutes -1", Docks::busy, Check.ARGUMENT, dock -> dock.pass(-1));
        Refused.call("minutes -1", () -> at(1999), Check.ARGUMENT, dock -> dock.pass(-1));
    }

    private static void passCountsThoseThatLeave() {
        Doc.says("Promise 9", "Returns the number of lorries that leave by this.");
        Crossdockery dock = Docks.lorries(8);
        for (int i = 0; i < 7; i++) {
            Docks.arriveAt(dock, i, i % 4);
        }
        dock.sendOff(6);
        Check.same("one at each door", dock.pass(1), 4);
        Check.same("the others but the one sent off", dock.pass(1), 2);
        Check.same("none", dock.pass(1), 0);
        Check.same("none in many minutes", dock.pass(300), 0);
        Docks.arriveAt(dock, 7, 0);
        Check.same("the last one, in one of many minutes", dock.pass(300), 1);
        Crossdockery eight = Docks.lorries(8);
        for (int i = 0; i < 8; i++) {
            Docks.arriveAt(eight, i, 2);
        }
        Check.same("seven of eight", eight.pass(7), 7);
        Check.same("the eighth", eight.pass(1), 1);
    }

    private static void passRefused() {
        Doc.says("Promise 9", "Throws IllegalStateException if the present minute would be greater than 2000");
        for (int minute : new int[] {1700, 1999}) {
            Crossdockery dock = at(minute);
            Check.same("to the end from " + minute, dock.pass(2000 - minute), 0);
            Check.same("the end", dock.now(), 2000);
        }
        Refused.call("300 at 1701", () -> at(1701), Check.STATE, dock -> dock.pass(300));
        Refused.call("2 at 1999", () -> at(1999), Check.STATE, dock -> dock.pass(2));
        Refused.call("300 at 1999", () -> at(1999), Check.STATE, dock -> dock.pass(300));
        Refused.call("1 at 2000", () -> at(2000), Check.STATE, dock -> dock.pass(1));
        Refused.call("300 at 2000", () -> at(2000), Check.STATE, dock -> dock.pass(300));
        Crossdockery dock = at(1999);
        Check.thrown("too many", Check.STATE, () -> dock.pass(2));
        Check.same("the last one all the same", dock.pass(1), 0);
    }

    private static Crossdockery at(int minute) {
        Crossdockery dock = Docks.busy();
        Docks.passTo(dock, minute);
        return dock;
    }

    // ---- promises 10 and 11

    private static void now() {
        String here = "Promise 10";
        Doc.says(here, "Returns the present minute.");
        Doc.says(here, "Returns the minute.");
        Crossdockery dock = Docks.lorries(1);
        Check.same("at first", dock.now(), 0);
        dock.pass(1);
        Check.same("one", dock.now(), 1);
        dock.pass(300);
        Check.same("and 300", dock.now(), 301);
        Docks.arriveAt(dock, 0, 0);
        Check.same("not by other events", dock.now(), 301);
        Docks.passTo(dock, 2000);
        Check.same("the last one", dock.now(), 2000);
        Check.thrown("beyond it", Check.STATE, () -> dock.pass(1));
        Check.same("still the last one", dock.now(), 2000);
    }

    private static void power() {
        String here = "Promise 11";
        Doc.says(here, "Returns the power of a door in the present minute.");
        Doc.says(here, "Returns the number of units.");
        Crossdockery dock = new Crossdockery();
        dock.moveGang(dock.addGang(2, 3, 5), 1);
        for (int due : new int[] {0, 0, 0, 2, 2, 0, 0}) {
            Check.same("in the minute " + dock.now(), dock.power(1), due);
            dock.pass(1);
        }
        Docks.gangAt(dock, 9, 1);
        Docks.gangAt(dock, 9, 1);
        Docks.gangAt(dock, 9, 1);
        Check.same("of three", dock.power(1), 27);
        dock.pass(300);
        Check.same("without a lorry too", dock.power(1), 27);
        Doc.says(here, "door: the door");
        Crossdockery four = new Crossdockery();
        for (int door = 0; door < 4; door++) {
            Docks.gangAt(four, door + 1, door);
        }
        for (int door = 0; door < 4; door++) {
            Check.same("door " + door, four.power(door), door + 1);
        }
        Doc.says(here, "Throws IndexOutOfBoundsException if there is no such door");
        for (int door : Refused.outside(0, 3)) {
            Refused.call("door " + door, Docks::busy, Check.INDEX, busy -> busy.power(door));
            Refused.call("door " + door, Crossdockery::new, Check.INDEX, empty -> empty.power(door));
        }
    }
}
