/** Boundaries that "What it is" and "Terms" name, up to what happens when a minute passes. */
final class BoundariesOfTerms {
    private static final String HERE = "Terms";
    private static final int NONE = Crossdockery.NONE;

    private BoundariesOfTerms() {
    }

    static void run() {
        calls();
        eventsInTheirOrder();
        questionsChangeNothing();
        lorries();
        transfers();
        doors();
        gangs();
        shifts();
        powers();
        presentMinute();
        doorsGetLorries();
        queues();
        unitsAsThePower();
        unloadedOrReady();
        lowerNumbersFirst();
        readyFrom();
        readyByTheDoorsOfTheMinute();
        leaving();
        waiting();
        minuteIncreases();
    }

    // ---- what it is

    private static void calls() {
        Doc.namesNoBoundary("What it is", "A cross dock.");
        Doc.says("What it is", "An object is used for at most 512 calls after it has been made;");
        Crossdockery dock = with511Calls();
        Check.same("the invoice as 512th call", dock.invoice(NONE, 0), 506 * 3);
        dock = with511Calls();
        Check.same("the new dock as 512th call", dock.invoiceAnew(NONE, 0), 506 * 3);
        dock = with511Calls();
        Check.same("the check as 512th call", dock.isSound(), true);
        dock = with511Calls();
        Check.same("an event as 512th call", dock.sendOff(0), 1);
        Crossdockery refusing = Docks.lorries(2);
        for (int i = 0; i < 509; i++) {
            Check.thrown("a refused call", Check.INDEX, () -> refusing.arrive(2));
        }
        Check.same("behind refused calls", refusing.addTransfer(0, 1, 99), 0);
        Doc.says("What it is", "what later calls answer is free.");
        dock = with511Calls();
        for (int i = 0; i < 9; i++) {
            dock.pass(1);
            dock.invoiceAnew(NONE, 0);
            dock.isSound();
        }
        Check.same("they answer", dock.now() >= 0, true);
    }

    /** Five calls, and then a minute for each. */
    private static Crossdockery with511Calls() {
        Crossdockery dock = new Crossdockery();
        dock.addLorry(true, 0, 3);
        dock.addLorry(false, 0, 1);
        dock.addTransfer(0, 1, 1);
        Docks.arriveAt(dock, 0, 0);
        for (int i = 0; i < 506; i++) {
            dock.pass(1);
        }
        return dock;
    }

    private static void eventsInTheirOrder() {
        Doc.namesNoBoundary(HERE, "Lorries bring goods that other lorries take on; gangs unload and load at doors; "
                + "whoever makes a lorry wait owes it money for each minute.");
        Doc.says(HERE, "Most calls are events in the dock, in the order in which they happen: lorries arrive, gangs "
                + "go to doors, minutes pass.");
        for (int first = 0; first < 2; first++) {
            Crossdockery dock = Docks.lorries(2);
            dock.addTransfer(0, 1, 9);
            int gang = dock.addGang(1, 0, 2000);
            Docks.passTo(dock, first);
            Docks.arriveAt(dock, 0, 0);
            dock.pass(2);
            dock.moveGang(gang, 0);
            dock.pass(3 - first);
            dock.moveGang(gang, 1);
            dock.pass(1);
            Check.same("gang there for minutes", dock.unloaded(0), 3 - first);
            Check.same("lorry there without it", dock.waited(0), 3);
            Check.same("and in a new dock", dock.invoiceAnew(NONE, 0), 3);
        }
    }

    private static void questionsChangeNothing() {
        Doc.says(HERE, "The other calls are questions, which change nothing.");
        String due = Picture.ofFuture(smallDock());
        Crossdockery asked = smallDock();
        Picture.same("asked twice", Picture.of(asked), Picture.of(asked));
        Picture.same("asked, going on", Picture.ofFuture(asked), due);
    }

    private static Crossdockery smallDock() {
        Crossdockery dock = Docks.lorries(3);
        dock.addTransfer(0, 1, 9);
        dock.addTransfer(2, 1, 2);
        Docks.gangAt(dock, 2, 0);
        Docks.gangAt(dock, 1, 3);
        Docks.arriveAt(dock, 0, 0);
        Docks.arriveAt(dock, 1, 3);
        dock.pass(3);
        return dock;
    }

    // ---- lorries and transfers

    private static void lorries() {
        Doc.says(HERE, "Lorries and transfers. At most 8 lorries exist, numbered from 0.");
        Crossdockery dock = new Crossdockery();
        for (int number = 0; number < 8; number++) {
            int next = number;
            Check.thrown("before lorry " + next, Check.INDEX, () -> dock.stateOf(next));
            Check.same("lorry", dock.addLorry(number % 3 == 0, 7, 7), number);
            Check.same("behind lorry " + next, dock.stateOf(next), 'e');
        }
        Refused.call("a ninth that brings", Docks::full, Check.STATE, full -> full.addLorry(true, 0, 1));
        Refused.call("a ninth that takes", Docks::full, Check.STATE, full -> full.addLorry(false, 0, 1));
        Refused.call("lorry 8", Docks::full, Check.INDEX, full -> full.stateOf(8));
        Doc.says(HERE, "A lorry brings goods or takes them; it has a planned minute, a rate, and a planned door or "
                + "none.");
        Crossdockery two = Docks.lorries(2);
        Check.same("brings and takes", two.addTransfer(0, 1, 1), 0);
        Check.same("none", two.planDoor(0, 2), NONE);
        Check.same("a planned door", two.planDoor(0, 2), 2);
        Doc.says(HERE, "A lorry is expected, 'e', in the yard, 'y', at a door, 'd', or it has left, 'l'.");
        Crossdockery one = Docks.lorries(2);
        one.addTransfer(0, 1, 1);
        Check.same("expected", one.stateOf(0), 'e');
        one.pass(1);
        one.planDoor(0, 0);
        Check.same("still expected", one.stateOf(0), 'e');
        one.arrive(0);
        Check.same("in the yard", one.stateOf(0), 'y');
        one.pass(1);
        Check.same("at a door", one.stateOf(0), 'd');
        one.sendOff(0);
        Check.same("has left", one.stateOf(0), 'l');
    }

    private static void transfers() {
        Doc.says(HERE, "At most 16 transfers exist, numbered from 0;");
        Crossdockery dock = Docks.lorries(2);
        for (int number = 0; number < 16; number++) {
            int next = number;
            Check.thrown("before transfer " + next, Check.INDEX, () -> dock.loaded(next));
            Check.same("transfer", dock.addTransfer(0, 1, 9), number);
            Check.same("behind transfer " + next, dock.loaded(next), 0);
        }
        Refused.call("a seventeenth", Docks::full, Check.STATE, full -> full.addTransfer(0, 1, 1));
        Refused.call("transfer 16", Docks::full, Check.INDEX, full -> full.unloaded(16));
        Doc.says(HERE, "a transfer has some units that one lorry brings and another one takes.");
        Crossdockery two = Docks.lorries(4);
        two.addTransfer(0, 3, 5);
        for (int lorry = 0; lorry < 4; lorry++) {
            Docks.arriveAt(two, lorry, lorry);
        }
        Check.same("the lorry that brings", two.sendOff(0), 5);
        Check.same("another one that takes", two.sendOff(1), 0);
        Check.same("another one that brings", two.sendOff(2), 0);
        Check.same("the lorry that takes", two.sendOff(3), 5);
    }

    private static void doors() {
        Doc.says(HERE, "There are the doors 0 to 3.");
        for (int door = 0; door < 4; door++) {
            Crossdockery dock = Docks.lorries(2);
            dock.addTransfer(0, 1, 9);
            Docks.gangAt(dock, 2, door);
            Check.same("planned", dock.planDoor(0, door), NONE);
            Check.same("planned anew", dock.planDoor(0, door), door);
            dock.arrive(0);
            Check.same("queue", dock.inQueue(door, 0), 0);
            dock.pass(1);
            Check.same("lorry", dock.lorryAt(door), 0);
            Check.same("power", dock.power(door), 2);
            Check.same("unloaded", dock.unloaded(0), 2);
            Check.same("gang", dock.moveGang(0, door), door);
        }
        for (int door : Refused.outside(0, 3)) {
            Refused.call("plan " + door, Docks::busy, Check.INDEX, dock -> dock.planDoor(2, door));
            Refused.call("power " + door, Docks::busy, Check.INDEX, dock -> dock.power(door));
            Refused.call("lorryAt " + door, Docks::busy, Check.INDEX, dock -> dock.lorryAt(door));
            Refused.call("inQueue " + door, Docks::busy, Check.INDEX, dock -> dock.inQueue(door, 0));
        }
    }

    // ---- gangs

    private static void gangs() {
        Doc.says(HERE, "Gangs. At most 4 gangs exist, numbered from 0.");
        Crossdockery dock = new Crossdockery();
        for (int number = 0; number < 4; number++) {
            int next = number;
            Check.thrown("before gang " + next, Check.INDEX, () -> dock.moveGang(next, 0));
            Check.same("gang", dock.addGang(1, 0, 9), number);
            Check.same("behind gang " + next, dock.moveGang(next, 0), NONE);
        }
        Refused.call("a fifth", Docks::full, Check.STATE, full -> full.addGang(1, 0, 9));
        Refused.call("gang 4", Docks::full, Check.INDEX, full -> full.moveGang(4, 0));
        Doc.says(HERE, "It is at a door or at none.");
        Crossdockery one = new Crossdockery();
        one.addGang(1, 0, 9);
        Check.same("at none", powersOf(one), "0 0 0 0");
        one.moveGang(0, 3);
        Check.same("at a door", powersOf(one), "0 0 0 1");
        one.moveGang(0, 0);
        Check.same("at another door alone", powersOf(one), "1 0 0 0");
        one.moveGang(0, NONE);
        Check.same("at none again", powersOf(one), "0 0 0 0");
    }

    private static String powersOf(Crossdockery dock) {
        return dock.power(0) + " " + dock.power(1) + " " + dock.power(2) + " " + dock.power(3);
    }

    private static void shifts() {
        Doc.says(HERE, "A gang has a speed, and a shift from a first minute up to, but not including, an end.");
        shift(0, 1);
        shift(0, 2);
        shift(3, 4);
        shift(3, 7);
        shift(1998, 1999);
        shift(1998, 2000);
        shift(1999, 2000);
        shift(0, 2000);
    }

    /** The power, and what it unloads, beside the first minute and beside the end. */
    private static void shift(int from, int to) {
        Crossdockery dock = Docks.lorries(2);
        dock.addTransfer(0, 1, 99);
        dock.addTransfer(0, 1, 99);
        dock.moveGang(dock.addGang(5, from, to), 1);
        Docks.passTo(dock, Math.max(0, from - 1));
        Docks.arriveAt(dock, 0, 1);
        int handled = 0;
        for (int i = 0; i < 7 && dock.now() < 2000; i++) {
            boolean isShift = from <= dock.now() && dock.now() < to;
            String what = "shift " + from + " to " + to + " in " + dock.now();
            Check.same(what, dock.power(1), isShift ? 5 : 0);
            handled += isShift ? 5 : 0;
            dock.pass(1);
            Check.same(what + ", unloaded", dock.unloaded(0), handled);
        }
        Crossdockery end = new Crossdockery();
        end.moveGang(end.addGang(5, from, to), 1);
        Docks.passTo(end, to - 1);
        Check.same("the last minute before " + to, end.power(1), 5);
        end.pass(1);
        Check.same("the end " + to, end.power(1), 0);
    }

    private static void powers() {
        Doc.says(HERE, "The power of a door in a minute is the sum of the speeds of the gangs at this door whose "
                + "shift contains the minute.");
        Crossdockery dock = Docks.lorries(2);
        dock.addTransfer(0, 1, 99);
        dock.addTransfer(0, 1, 99);
        Docks.arriveAt(dock, 0, 2);
        Check.same("no gangs", dock.power(2), 0);
        dock.pass(1);
        for (int gangs = 1; gangs <= 4; gangs++) {
            int before = dock.unloaded(0) + dock.unloaded(1);
            Docks.gangAt(dock, 9, 2);
            Check.same("gangs " + gangs, dock.power(2), 9 * gangs);
            dock.pass(1);
            Check.same("units of " + gangs, dock.unloaded(0) + dock.unloaded(1), before + 9 * gangs);
        }
        dock.moveGang(0, 1);
        dock.moveGang(3, NONE);
        Check.same("some at other doors", powersOf(dock), "0 9 18 0");
        Crossdockery turns = new Crossdockery();
        turns.moveGang(turns.addGang(1, 0, 2), 0);
        turns.moveGang(turns.addGang(2, 1, 3), 0);
        turns.moveGang(turns.addGang(4, 2, 4), 0);
        for (int due : new int[] {1, 3, 6, 4, 0}) {
            Check.same("shifts in the minute " + turns.now(), turns.power(0), due);
            turns.pass(1);
        }
    }

    // ---- minutes

    private static void presentMinute() {
        Doc.says(HERE, "Minutes. The present minute is 0 at first, and at most 2000.");
        Crossdockery dock = new Crossdockery();
        Check.same("at first", dock.now(), 0);
        Docks.passTo(dock, 1999);
        Check.same("before the end", dock.now(), 1999);
        Check.same("to the end", dock.pass(1), 0);
        Check.same("the end", dock.now(), 2000);
        Refused.call("beyond the end", BoundariesOfTerms::atTheEnd, Check.STATE, end -> end.pass(1));
        Crossdockery end = atTheEnd();
        Check.same("events at the end", end.arrive(1), 1);
        Check.same("a lorry at the end", end.addLorry(true, 1999, 1), 2);
        Check.same("away at the end", end.sendOff(1), 9);
        Check.same("left at the end", end.leftAt(1), 2000);
    }

    private static Crossdockery atTheEnd() {
        Crossdockery dock = Docks.lorries(2);
        dock.addTransfer(0, 1, 9);
        dock.addGang(1, 0, 2000);
        dock.planDoor(1, 1);
        Docks.arriveAt(dock, 0, 1);
        Docks.passTo(dock, 2000);
        return dock;
    }

    private static void doorsGetLorries() {
        Doc.says(HERE, "When a minute passes, the following happens in this order. First, each door at which there "
                + "is no lorry, by rising numbers, gets the first lorry of its queue, if there is one.");
        Crossdockery dock = new Crossdockery();
        for (int i = 0; i < 8; i++) {
            dock.addLorry(i < 4, 0, 1);
        }
        for (int i = 0; i < 4; i++) {
            dock.addTransfer(i, 4 + i, 1);
            Docks.arriveAt(dock, i, i);
            Docks.arriveAt(dock, 4 + i, i);
            int door = i;
            Check.thrown("not before a minute passes", Check.ELEMENT, () -> dock.lorryAt(door));
        }
        dock.pass(1);
        for (int door = 0; door < 4; door++) {
            Check.same("the first gets the door", dock.lorryAt(door), door);
            Check.same("the second stays in the queue", dock.inQueue(door, 0), 4 + door);
        }
        dock.pass(2);
        dock.sendOff(2);
        Check.thrown("none when it is sent off", Check.ELEMENT, () -> dock.lorryAt(2));
        dock.pass(1);
        Check.same("the second gets the free door", dock.lorryAt(2), 6);
        Check.same("a door with a lorry gets none", dock.lorryAt(1), 1);
        dock.sendOff(6);
        dock.pass(1);
        Check.thrown("an empty queue", Check.ELEMENT, () -> dock.lorryAt(2));
        Check.thrown("an empty queue", Check.ELEMENT, () -> dock.inQueue(2, 0));
        firstBeforeSecond();
    }

    /** The door gets the lorry before units are handled, but only one lorry in a minute. */
    private static void firstBeforeSecond() {
        Crossdockery dock = Docks.lorries(5);
        dock.addTransfer(0, 1, 3);
        dock.addTransfer(4, 1, 3);
        Docks.gangAt(dock, 9, 0);
        Docks.arriveAt(dock, 0, 0);
        Docks.arriveAt(dock, 2, 0);
        Docks.arriveAt(dock, 4, 0);
        Check.same("door, units and leaving in one minute", dock.pass(1), 1);
        Check.same("units", dock.unloaded(0), 3);
        Check.same("not the next in the same minute", dock.stateOf(2), 'y');
        Check.thrown("the door is free behind the minute", Check.ELEMENT, () -> dock.lorryAt(0));
        Check.same("the next in the next minute", dock.pass(1), 1);
        Check.same("units of the last one", dock.unloaded(1), 0);
        Check.same("the last in the last minute", dock.pass(1), 1);
        Check.same("units of the last one", dock.unloaded(1), 3);
        Check.same("first", dock.leftAt(0), 1);
        Check.same("second", dock.leftAt(2), 2);
        Check.same("third", dock.leftAt(4), 3);
    }

    private static void queues() {
        Doc.says(HERE, "The queue of a door consists of the lorries in the yard for which it is planned, by the "
                + "minutes at which they arrived, and those of the same minute by their numbers.");
        Crossdockery dock = new Crossdockery();
        for (int i = 0; i < 8; i++) {
            dock.addLorry(i % 2 == 0, 0, 1);
            dock.planDoor(i, 1);
        }
        dock.addTransfer(0, 1, 1);
        Check.same("only expected", queueOf(dock, 1), "");
        dock.arrive(0);
        dock.pass(1);
        Check.same("only at the door", queueOf(dock, 1), "");
        dock.arrive(6);
        dock.arrive(5);
        Check.same("same minute", queueOf(dock, 1), "5 6 ");
        dock.pass(1);
        dock.arrive(7);
        dock.arrive(1);
        dock.arrive(2);
        Check.same("a minute later", queueOf(dock, 1), "5 6 1 2 7 ");
        dock.pass(1);
        Docks.arriveAt(dock, 3, 2);
        dock.arrive(4);
        Check.same("another queue", queueOf(dock, 2), "3 ");
        Check.same("not of another door", queueOf(dock, 1), "5 6 1 2 7 4 ");
        dock.planDoor(3, 1);
        Check.same("planned for it in the yard", queueOf(dock, 1), "5 6 1 2 7 3 4 ");
        dock.planDoor(6, 3);
        dock.sendOff(1);
        Check.same("planned elsewhere, or gone", queueOf(dock, 1), "5 2 7 3 4 ");
        dock.planDoor(6, 1);
        Check.same("planned for it again, by its minute", queueOf(dock, 1), "5 6 2 7 3 4 ");
    }

    private static String queueOf(Crossdockery dock, int door) {
        StringBuilder text = new StringBuilder();
        for (int place = 0; place < 8; place++) {
            try {
                text.append(dock.inQueue(door, place)).append(' ');
            } catch (java.util.NoSuchElementException e) {
                return text.toString();
            }
        }
        return text.toString();
    }

    // ---- units

    private static void unitsAsThePower() {
        Doc.says(HERE, "Second, at each door, by rising numbers, as many units as the power are handled, or fewer if "
                + "there are not so many.");
        for (int power : new int[] {1, 5, 9, 10, 36}) {
            for (int units = Math.max(1, power - 1); units <= power + 1; units++) {
                unloadAtOnce(power, units);
                loadAtOnce(power, units);
            }
        }
        Crossdockery dock = Docks.lorries(2);
        dock.addTransfer(0, 1, 3);
        Docks.arriveAt(dock, 0, 0);
        Docks.gangAt(dock, 9, 1);
        dock.pass(3);
        Check.same("no power", dock.unloaded(0), 0);
        Crossdockery all = new Crossdockery();
        for (int door = 0; door < 4; door++) {
            all.addLorry(true, 0, 1);
            Docks.gangAt(all, door + 2, door);
            Docks.arriveAt(all, door, door);
        }
        all.addLorry(false, 0, 1);
        for (int door = 0; door < 4; door++) {
            all.addTransfer(door, 4, 50);
        }
        all.pass(2);
        for (int door = 0; door < 4; door++) {
            Check.same("each door, by its own power", all.unloaded(door), 2 * (door + 2));
        }
    }

    private static void gangsOf(Crossdockery dock, int power, int door) {
        for (int left = power; left > 0; left -= 9) {
            Docks.gangAt(dock, Math.min(9, left), door);
        }
    }

    private static void unloadAtOnce(int power, int units) {
        Crossdockery dock = Docks.lorries(2);
        dock.addTransfer(0, 1, units);
        gangsOf(dock, power, 3);
        Docks.arriveAt(dock, 0, 3);
        String what = "power " + power + ", units " + units;
        Check.same(what + ", leaving", dock.pass(1), units <= power ? 1 : 0);
        Check.same(what, dock.unloaded(0), Math.min(power, units));
        Check.same(what + ", leaving later", dock.pass(1), units <= power ? 0 : 1);
        Check.same(what + ", later", dock.unloaded(0), units);
    }

    private static void loadAtOnce(int power, int units) {
        Crossdockery dock = Docks.lorries(2);
        dock.addTransfer(0, 1, units);
        gangsOf(dock, power, 3);
        Docks.arriveAt(dock, 0, 3);
        dock.pass(2);
        Docks.arriveAt(dock, 1, 3);
        Check.same("ready " + units, dock.ready(0), units);
        String what = "loading, power " + power + ", units " + units;
        Check.same(what + ", leaving", dock.pass(1), units <= power ? 1 : 0);
        Check.same(what, dock.loaded(0), Math.min(power, units));
        Check.same(what + ", ready", dock.ready(0), units - Math.min(power, units));
        Check.same(what + ", leaving later", dock.pass(1), units <= power ? 0 : 1);
        Check.same(what + ", later", dock.loaded(0), units);
    }

    private static void unloadedOrReady() {
        Doc.says(HERE, "Of a lorry that brings goods, these are units of its transfers that are not unloaded, which "
                + "are unloaded; of a lorry that takes goods, units of its transfers that are ready, which are loaded;");
        Crossdockery dock = Docks.lorries(4);
        dock.addTransfer(2, 1, 4);
        dock.addTransfer(0, 3, 4);
        dock.addTransfer(0, 1, 4);
        Docks.gangAt(dock, 3, 0);
        Docks.gangAt(dock, 9, 1);
        Docks.arriveAt(dock, 0, 0);
        Docks.arriveAt(dock, 1, 1);
        dock.planDoor(3, 0);
        dock.pass(1);
        Check.same("not another lorry's", dock.unloaded(0), 0);
        Check.same("its first", dock.unloaded(1), 3);
        dock.pass(1);
        Check.same("those not unloaded, and then the next", dock.unloaded(1), 4);
        Check.same("the next", dock.unloaded(2), 2);
        Check.same("not ready yet", dock.loaded(2), 0);
        dock.pass(1);
        Check.same("not ready a door further", dock.loaded(2), 0);
        Check.same("unloaded to the end", dock.unloaded(2), 4);
        dock.pass(1);
        Check.same("those that are ready, with more power", dock.loaded(2), 2);
        Check.same("not another lorry's", dock.loaded(1), 0);
        dock.pass(1);
        Check.same("those that got ready", dock.loaded(2), 4);
        Check.same("none that are not unloaded", dock.loaded(0), 0);
    }

    private static void lowerNumbersFirst() {
        Doc.says(HERE, "transfers with lower numbers first.");
        for (int power = 1; power <= 9; power++) {
            Crossdockery dock = Docks.lorries(2);
            dock.addTransfer(0, 1, 3);
            dock.addTransfer(0, 1, 2);
            dock.addTransfer(0, 1, 3);
            Docks.gangAt(dock, power, 0);
            Docks.arriveAt(dock, 0, 0);
            dock.pass(1);
            String what = "power " + power;
            Check.same(what + ", first", dock.unloaded(0), Math.min(3, power));
            Check.same(what + ", second", dock.unloaded(1), Math.max(0, Math.min(2, power - 3)));
            Check.same(what + ", third", dock.unloaded(2), Math.max(0, Math.min(3, power - 5)));
        }
        for (int power = 1; power <= 9; power++) {
            Crossdockery dock = Docks.lorries(2);
            dock.addTransfer(0, 1, 3);
            dock.addTransfer(0, 1, 2);
            dock.addTransfer(0, 1, 3);
            Docks.gangAt(dock, 9, 0);
            Docks.gangAt(dock, power, 1);
            Docks.arriveAt(dock, 0, 0);
            dock.pass(3);
            Docks.arriveAt(dock, 1, 1);
            dock.pass(1);
            String what = "loading, power " + power;
            Check.same(what + ", first", dock.loaded(0), Math.min(3, power));
            Check.same(what + ", second", dock.loaded(1), Math.max(0, Math.min(2, power - 3)));
            Check.same(what + ", third", dock.loaded(2), Math.max(0, Math.min(3, power - 5)));
        }
    }

    private static void readyFrom() {
        Doc.says(HERE, "Units that are unloaded in a minute are ready from the next minute on, and later by as many "
                + "minutes as the difference of the door of the lorry that brings them and the planned door of the "
                + "lorry that takes them,");
        Doc.says(HERE, "so units that are unloaded in the minute m are ready from the minute m + 1 plus the "
                + "difference on.");
        for (int from = 0; from < 4; from++) {
            for (int to = 0; to < 4; to++) {
                readyAndLoaded(from, to, 0);
                readyAndLoaded(from, to, 6);
            }
        }
        Doc.says(HERE, "without such a door, the difference is 0;");
        for (int from = 0; from < 4; from++) {
            Crossdockery dock = Docks.lorries(2);
            dock.addTransfer(0, 1, 4);
            Docks.gangAt(dock, 3, from);
            Docks.arriveAt(dock, 0, from);
            dock.pass(1);
            Check.same("ready from " + from, dock.ready(0), 3);
            dock.pass(1);
            Check.same("all ready from " + from, dock.ready(0), 4);
        }
    }

    private static void readyAndLoaded(int from, int to, int minute) {
        Crossdockery dock = Docks.lorries(2);
        dock.addTransfer(0, 1, 7);
        Docks.gangAt(dock, 9, from);
        Docks.gangAt(dock, 9, to);
        int ready = minute + 1 + Math.abs(from - to);
        Docks.passTo(dock, minute);
        Docks.arriveAt(dock, 0, from);
        dock.planDoor(1, to);
        for (int now = minute + 1; now <= ready; now++) {
            dock.pass(1);
            String what = "unloaded at " + from + " in " + minute + " for " + to + ", at " + now;
            Check.same(what, dock.ready(0), now < ready ? 0 : 7);
            Check.same(what + ", unloaded", dock.unloaded(0), 7);
            if (now == ready - 1) {
                dock.arrive(1);
            }
            Check.same(what + ", loaded", dock.loaded(0), 0);
        }
        if (from == to) {
            dock.arrive(1);
        }
        dock.pass(1);
        Check.same("loaded in the minute " + ready, dock.loaded(0), 7);
        Check.same("not ready any more", dock.ready(0), 0);
        Check.same("left", dock.leftAt(1), ready + 1);
    }

    private static void readyByTheDoorsOfTheMinute() {
        Doc.says(HERE, "as both are in this minute;");
        Crossdockery dock = Docks.lorries(2);
        dock.addTransfer(0, 1, 10);
        Docks.gangAt(dock, 2, 1);
        Docks.arriveAt(dock, 0, 1);
        dock.planDoor(1, 3);
        dock.pass(1);
        dock.planDoor(1, 1);
        Check.same("planned behind the minute", dock.ready(0), 0);
        dock.pass(1);
        Check.same("planned before the minute", dock.ready(0), 2);
        dock.planDoor(1, 2);
        dock.pass(1);
        Check.same("those of the first minute, two doors", dock.ready(0), 4);
        dock.planDoor(1, 0);
        dock.pass(1);
        Check.same("those of the third minute, one door", dock.ready(0), 6);
        Docks.arriveAt(dock, 1, 1);
        dock.planDoor(1, 3);
        dock.pass(1);
        Check.same("those of the fourth minute, one door", dock.ready(0), 8);
        dock.pass(1);
        Check.same("those of the fifth minute not yet", dock.ready(0), 8);
        dock.pass(1);
        Check.same("those of the fifth minute, two doors", dock.ready(0), 10);
        Crossdockery none = Docks.lorries(2);
        none.addTransfer(0, 1, 2);
        Docks.gangAt(none, 1, 0);
        Docks.arriveAt(none, 0, 0);
        none.pass(1);
        none.planDoor(1, 3);
        Check.same("no door in this minute", none.ready(0), 1);
        none.pass(1);
        Check.same("a door in the next one", none.ready(0), 1);
        none.pass(2);
        Check.same("not yet", none.ready(0), 1);
        none.pass(1);
        Check.same("three doors", none.ready(0), 2);
        readyForEachState();
    }

    /** The planned door counts whether the lorry that takes is expected, in the yard, at a door or has left. */
    private static void readyForEachState() {
        for (char state : new char[] {'e', 'y', 'd', 'l'}) {
            Crossdockery dock = Docks.lorries(5);
            dock.addTransfer(0, 1, 3);
            dock.addTransfer(4, 3, 1);
            Docks.gangAt(dock, 1, 0);
            Docks.arriveAt(dock, 3, 2);
            dock.planDoor(1, 2);
            dock.pass(1);
            if (state != 'e') {
                dock.arrive(1);
            }
            if (state == 'd') {
                dock.sendOff(3);
            }
            if (state == 'l') {
                dock.sendOff(1);
            }
            Docks.arriveAt(dock, 0, 0);
            int[] due = {0, 0, 1, 2, 3};
            for (int minute = 0; minute < due.length; minute++) {
                dock.pass(1);
                Check.same("state", dock.stateOf(1), state);
                Check.same("unloaded for one in the state " + state, dock.unloaded(0), Math.min(3, minute + 1));
                Check.same("ready for one in the state " + state, dock.ready(0), due[minute]);
            }
            Check.same("the lorry that brings left with the last unit", dock.leftAt(0), 4);
        }
    }

    // ---- leaving and waiting

    private static void leaving() {
        Doc.says(HERE, "Third, each lorry at a door leaves if it brings goods and all units of its transfers are "
                + "unloaded, or if it takes goods and all units of its transfers are loaded.");
        Crossdockery dock = Docks.lorries(4);
        dock.addTransfer(0, 1, 4);
        dock.addTransfer(0, 3, 3);
        dock.addTransfer(2, 1, 1);
        Docks.gangAt(dock, 3, 0);
        Docks.gangAt(dock, 2, 1);
        Docks.arriveAt(dock, 0, 0);
        Docks.arriveAt(dock, 1, 1);
        dock.pass(2);
        Check.same("one unit is not unloaded", dock.stateOf(0), 'd');
        Check.same("none is not unloaded", dock.pass(1), 1);
        Check.same("although not all are loaded", dock.stateOf(0), 'l');
        Docks.arriveAt(dock, 2, 0);
        Check.same("another's units are unloaded", dock.pass(1), 1);
        Check.same("all are unloaded, not all are loaded", dock.stateOf(1), 'd');
        dock.pass(1);
        Check.same("one unit is not loaded", dock.loaded(0) + dock.loaded(2), 4);
        Check.same("one unit is not loaded", dock.stateOf(1), 'd');
        Check.same("none is not loaded", dock.pass(1), 1);
        Check.same("all are loaded", dock.stateOf(1), 'l');
        Check.same("left", dock.leftAt(1), 6);
        withoutTransfers();
    }

    private static void withoutTransfers() {
        Crossdockery dock = Docks.lorries(6);
        dock.addTransfer(0, 1, 1);
        Docks.arriveAt(dock, 0, 0);
        Docks.arriveAt(dock, 2, 0);
        Docks.arriveAt(dock, 3, 1);
        Docks.arriveAt(dock, 5, 1);
        Docks.arriveAt(dock, 4, 2);
        Check.same("no transfers, at doors", dock.pass(1), 2);
        Check.same("brings", dock.stateOf(4), 'l');
        Check.same("takes", dock.stateOf(3), 'l');
        Check.same("no transfers, in the yard", dock.stateOf(2), 'y');
        Check.same("no transfers, in the yard", dock.stateOf(5), 'y');
        dock.addTransfer(2, 5, 1);
        Check.same("with a transfer by now", dock.pass(3), 0);
        Check.same("at a door", dock.stateOf(5), 'd');
    }

    private static void waiting() {
        Doc.says(HERE, "Fourth, each lorry that is still in the yard or at a door, and of which no unit was handled "
                + "in this minute, waits for a minute, which is owed as told below.");
        Crossdockery dock = Docks.lorries(7);
        dock.addTransfer(0, 1, 5);
        dock.addTransfer(2, 1, 5);
        dock.addTransfer(0, 3, 1);
        Docks.gangAt(dock, 1, 0);
        Docks.arriveAt(dock, 0, 0);
        Docks.arriveAt(dock, 1, 1);
        Docks.arriveAt(dock, 2, 2);
        Docks.arriveAt(dock, 3, 2);
        Docks.arriveAt(dock, 5, 3);
        Docks.arriveAt(dock, 6, 3);
        dock.pass(1);
        Check.same("a unit unloaded", dock.waited(0), 0);
        Check.same("takes, nothing ready", dock.waited(1), 1);
        Check.same("brings, no power", dock.waited(2), 1);
        Check.same("in the yard", dock.waited(3), 1);
        Check.same("expected", dock.waited(4), 0);
        Check.same("left without any unit", dock.waited(5), 0);
        Check.same("in the yard, with nothing to do", dock.waited(6), 1);
        dock.moveGang(0, 1);
        dock.pass(1);
        Check.same("without the gang", dock.waited(0), 1);
        Check.same("not ready before a door further", dock.waited(1), 2);
        dock.pass(1);
        Check.same("a unit loaded", dock.waited(1), 2);
        Check.same("it was one", dock.loaded(0), 1);
        dock.pass(1);
        Check.same("no unit loaded again", dock.waited(1), 3);
        dock.sendOff(1);
        dock.pass(1);
        Check.same("has left", dock.waited(1), 3);
        Check.same("has left by itself", dock.waited(6), 1);
        Check.same("a unit that makes it leave", lastUnitThenLeft().waited(0), 0);
    }

    private static Crossdockery lastUnitThenLeft() {
        Crossdockery dock = Docks.lorries(2);
        dock.addTransfer(0, 1, 2);
        Docks.gangAt(dock, 1, 0);
        Docks.arriveAt(dock, 0, 0);
        Check.same("left by the last unit", dock.pass(2), 1);
        return dock;
    }

    private static void minuteIncreases() {
        Doc.says(HERE, "Then the present minute increases by 1.");
        Crossdockery dock = Docks.lorries(2);
        for (int minute = 0; minute < 4; minute++) {
            Check.same("before", dock.now(), minute);
            dock.pass(1);
            Check.same("behind", dock.now(), minute + 1);
        }
        Docks.arriveAt(dock, 0, 0);
        dock.pass(1);
        Check.same("left at the increased minute", dock.leftAt(0), 5);
    }
}
