/** Boundaries that the promises 28 to 31 name: ways, the best plan, and whether the books are sound. */
final class BoundariesOfPlans {
    private static final int NONE = Crossdockery.NONE;

    private BoundariesOfPlans() {
    }

    static void run() {
        ways();
        waysOfLorriesInEachState();
        leastWays();
        leastWaysByFixedDoors();
        leastWaysAndBestDoorsByTryingAll();
        bestDoor();
        bestDoorOfSeveralPlans();
        bestDoorRefused();
        isSound();
    }

    // ---- promise 28

    private static void ways() {
        String here = "Promise 28";
        Doc.says(here, "Returns the ways of all transfers: the sum, over all transfers of which both lorries have planned "
                + "doors, of the units times the difference of these doors.");
        Doc.says(here, "Returns the sum.");
        for (int from = NONE; from < 4; from++) {
            for (int to = NONE; to < 4; to++) {
                Crossdockery dock = Docks.lorries(2);
                dock.addTransfer(0, 1, 7);
                if (from != NONE) {
                    dock.planDoor(0, from);
                }
                if (to != NONE) {
                    dock.planDoor(1, to);
                }
                int due = from == NONE || to == NONE ? 0 : 7 * Math.abs(from - to);
                Check.same("from " + from + " to " + to, dock.ways(), due);
            }
        }
        Crossdockery none = Docks.lorries(2);
        none.planDoor(0, 0);
        none.planDoor(1, 3);
        Check.same("no transfers", none.ways(), 0);
        none.addTransfer(0, 1, 1);
        Check.same("one unit", none.ways(), 3);
        none.addTransfer(0, 1, 99);
        Check.same("two transfers", none.ways(), 300);
        for (int i = 2; i < 16; i++) {
            none.addTransfer(0, 1, 99);
        }
        Check.same("sixteen transfers", none.ways(), 3 * (15 * 99 + 1));
        none.planDoor(0, 3);
        Check.same("planned anew", none.ways(), 0);
    }

    private static void waysOfLorriesInEachState() {
        Crossdockery dock = Docks.lorries(2);
        dock.addTransfer(0, 1, 5);
        dock.planDoor(0, 1);
        dock.planDoor(1, 3);
        Docks.gangAt(dock, 2, 1);
        Check.same("expected", dock.ways(), 10);
        dock.arrive(0);
        Check.same("in the yard", dock.ways(), 10);
        dock.pass(1);
        Check.same("at a door, some are unloaded", dock.ways(), 10);
        dock.pass(5);
        Check.same("has left", dock.ways(), 10);
        dock.arrive(1);
        dock.sendOff(1);
        Check.same("both have left", dock.ways(), 10);
    }

    // ---- promise 29

    private static void leastWays() {
        String here = "Promise 29";
        Doc.says(here, "Returns the least that ways() could be if doors were planned for all expected lorries as one "
                + "liked;");
        Doc.says(here, "Returns the sum.");
        Check.same("no lorries", new Crossdockery().leastWays(), 0);
        Check.same("no transfers", Docks.lorries(8).leastWays(), 0);
        Crossdockery dock = Docks.full();
        for (int i = 0; i < 8; i++) {
            dock.planDoor(i, i % 2 * 3);
        }
        Check.same("as planned", dock.ways(), 16 * 17 / 2 * 3);
        Check.same("all expected at one door", dock.leastWays(), 0);
        Check.same("still as planned", dock.ways(), 16 * 17 / 2 * 3);
        Check.same("doors are still planned", dock.planDoor(7, 0), 3);
    }

    private static void leastWaysByFixedDoors() {
        Doc.says("Promise 29", "all other lorries keep their planned doors.");
        for (int from = 0; from < 4; from++) {
            for (int to = 0; to < 4; to++) {
                int far = Math.abs(from - to);
                Crossdockery dock = Docks.lorries(4);
                dock.addTransfer(0, 1, 5);
                dock.addTransfer(0, 3, 2);
                dock.addTransfer(2, 1, 9);
                Docks.arriveAt(dock, 0, from);
                dock.planDoor(1, to);
                dock.planDoor(3, 3 - from);
                Check.same("one is in the yard", dock.leastWays(), 0);
                dock.arrive(1);
                Check.same("both are in the yard", dock.leastWays(), 5 * far);
                dock.pass(1);
                Check.same("at their doors", dock.leastWays(), 5 * far);
                dock.sendOff(0);
                dock.pass(1);
                Check.same("one has left", dock.leastWays(), 5 * far);
                dock.sendOff(1);
                Check.same("both have left", dock.leastWays(), 5 * far);
                dock.arrive(3);
                Check.same("a third in the yard", dock.leastWays(), 5 * far + 2 * Math.abs(3 - 2 * from));
            }
        }
        Crossdockery between = Docks.lorries(4);
        between.addTransfer(0, 1, 5);
        between.addTransfer(2, 1, 4);
        between.addTransfer(2, 3, 6);
        Docks.arriveAt(between, 0, 0);
        Docks.arriveAt(between, 3, 3);
        Check.same("the least of a chain", between.leastWays(), 12);
        Crossdockery away = Docks.lorries(2);
        away.addTransfer(0, 1, 5);
        away.planDoor(0, 3);
        Docks.arriveAt(away, 1, 0);
        Check.same("as planned", away.ways(), 15);
        Check.same("the first lorry's door is as one liked", away.leastWays(), 0);
        Check.same("it goes to the other one", away.bestDoor(0), 0);
        Crossdockery most = Docks.lorries(2);
        for (int i = 0; i < 16; i++) {
            most.addTransfer(0, 1, 99);
        }
        Docks.arriveAt(most, 0, 3);
        Docks.arriveAt(most, 1, 0);
        Check.same("the most", most.leastWays(), 16 * 99 * 3);
    }

    private static void leastWaysAndBestDoorsByTryingAll() {
        Doc.says("Promise 30", "of all plans with the least ways, the one in which the expected lorry with the lowest "
                + "number has the lowest door; of several, the one in which the next one has, and so on.");
        for (int kind = 0; kind < 48; kind++) {
            tryAll(kind, new int[] {1, 2, 4, 6});
            tryAll(kind, new int[] {0, 1, 3, 5});
            tryAll(kind, new int[] {0, 2, 5, 6});
            tryAll(kind, new int[] {3, 4, 5, 6});
        }
    }

    /** Four expected lorries, with doors that count for nothing, and three fixed ones, against all plans in order. */
    private static void tryAll(int kind, int[] expected) {
        int[] units = new int[12];
        Crossdockery dock = Docks.lorries(7);
        for (int i = 0; i < units.length; i++) {
            units[i] = (kind * 7 + i * i * 5) % 4;
            if (units[i] > 0) {
                dock.addTransfer(i / 3 * 2, i % 3 * 2 + 1, units[i]);
            }
        }
        int[] doors = new int[7];
        for (int i = 0; i < doors.length; i++) {
            doors[i] = (kind >> i % 3 * 2) + i & 3;
            dock.planDoor(i, doors[i]);
            if (i != expected[0] && i != expected[1] && i != expected[2] && i != expected[3]) {
                dock.arrive(i);
            }
        }
        int[] best = bestOfAll(units, doors, expected);
        Check.same("least ways of " + kind, dock.leastWays(), waysOf(units, best));
        for (int lorry : expected) {
            Check.same("door of " + lorry + " in " + kind, dock.bestDoor(lorry), best[lorry]);
        }
        Check.same("still as planned", dock.ways(), waysOf(units, doors));
    }

    /** The first plan with the least ways, the door of the lowest number being the highest digit. */
    private static int[] bestOfAll(int[] units, int[] doors, int[] expected) {
        int least = Integer.MAX_VALUE;
        int[] best = doors;
        for (int plan = 0; plan < 256; plan++) {
            int[] planned = doors.clone();
            for (int i = 0; i < 4; i++) {
                planned[expected[i]] = plan >> 6 - 2 * i & 3;
            }
            int ways = waysOf(units, planned);
            if (ways < least) {
                least = ways;
                best = planned;
            }
        }
        return best;
    }

    private static int waysOf(int[] units, int[] doors) {
        int sum = 0;
        for (int i = 0; i < units.length; i++) {
            sum += units[i] * Math.abs(doors[i / 3 * 2] - doors[i % 3 * 2 + 1]);
        }
        return sum;
    }

    // ---- promise 30

    private static void bestDoor() {
        String here = "Promise 30";
        Doc.says(here, "Returns the door of a lorry in the best plan:");
        Doc.says(here, "lorry: the number of the lorry");
        Doc.says(here, "Returns the door.");
        Crossdockery free = Docks.full();
        for (int lorry = 0; lorry < 8; lorry++) {
            free.planDoor(lorry, 3);
        }
        for (int lorry = 0; lorry < 8; lorry++) {
            Check.same("all at the lowest door", free.bestDoor(lorry), 0);
        }
        for (int door = 0; door < 4; door++) {
            Crossdockery dock = Docks.lorries(8);
            for (int i = 0; i < 7; i++) {
                dock.addTransfer(i & ~1, 7, 1);
            }
            Docks.arriveAt(dock, 7, door);
            for (int lorry = 0; lorry < 7; lorry++) {
                Check.same("where the fixed one is", dock.bestDoor(lorry), lorry % 2 == 0 ? door : 0);
            }
        }
    }

    private static void bestDoorOfSeveralPlans() {
        Doc.says("Promise 30", "of several, the one in which the next one has, and so on.");
        Crossdockery pair = Docks.lorries(4);
        pair.addTransfer(0, 1, 1);
        pair.addTransfer(2, 1, 1);
        pair.addTransfer(2, 3, 1);
        Docks.arriveAt(pair, 0, 1);
        Docks.arriveAt(pair, 3, 3);
        Check.same("any plan between has two", pair.leastWays(), 2);
        Check.same("the lowest number the lowest door", pair.bestDoor(1), 1);
        Check.same("and so the next one", pair.bestDoor(2), 1);
        Crossdockery turned = Docks.lorries(4);
        turned.addTransfer(0, 1, 1);
        turned.addTransfer(2, 1, 1);
        turned.addTransfer(2, 3, 1);
        Docks.arriveAt(turned, 0, 3);
        Docks.arriveAt(turned, 3, 1);
        Check.same("the lowest number the lowest door", turned.bestDoor(1), 1);
        Check.same("and the next one has no choice", turned.bestDoor(2), 1);
        Crossdockery heavy = Docks.lorries(4);
        heavy.addTransfer(0, 1, 2);
        heavy.addTransfer(2, 1, 1);
        heavy.addTransfer(2, 3, 1);
        Docks.arriveAt(heavy, 0, 3);
        Docks.arriveAt(heavy, 3, 1);
        Check.same("the least ways before the lowest door", heavy.bestDoor(1), 3);
        Check.same("the lowest door of the next one", heavy.bestDoor(2), 1);
    }

    private static void bestDoorRefused() {
        String here = "Promise 30";
        Doc.says(here, "Throws IndexOutOfBoundsException if there is no such lorry");
        for (int lorry : Refused.outside(0, Docks.BUSY_LORRIES - 1)) {
            Refused.call("lorry " + lorry, Docks::busy, Check.INDEX, dock -> dock.bestDoor(lorry));
        }
        Refused.call("no lorries", Crossdockery::new, Check.INDEX, dock -> dock.bestDoor(0));
        Refused.call("lorry 8", Docks::full, Check.INDEX, dock -> dock.bestDoor(8));
        Doc.says(here, "Throws IllegalStateException if it is not expected");
        Check.same("expected, no door", Docks.busy().bestDoor(Docks.EXPECTED_BRINGING), 2);
        Check.same("expected, with a door", Docks.busy().bestDoor(Docks.EXPECTED_TAKING), 0);
        int[] others = {Docks.AT_DOOR_BRINGING, Docks.IN_YARD_TAKING, Docks.LEFT_TAKING, Docks.AT_DOOR_TAKING};
        for (int lorry : others) {
            Refused.call("lorry " + lorry, Docks::busy, Check.STATE, dock -> dock.bestDoor(lorry));
        }
    }

    // ---- promise 31

    private static void isSound() {
        String here = "Promise 31";
        Doc.says(here, "Checks whether, for each lorry, the minutes that it has waited are its own ones and those that "
                + "are owed, invoices found in both ways agree, and all balances make 0 together.");
        Doc.says(here, "Returns whether all of this holds.");
        Check.same("a new object", new Crossdockery().isSound(), true);
        Check.same("a full dock", Docks.full().isSound(), true);
        Crossdockery dock = Docks.busy();
        for (int i = 0; i < 20; i++) {
            Check.same("in the minute " + dock.now(), dock.isSound(), true);
            sums(dock);
            dock.pass(1);
            dock.moveGang(i % 3, i % 5 - 1);
            if (i == 6) {
                dock.sendOff(4);
                Docks.arriveAt(dock, 2, 2);
            }
        }
        Docks.passTo(dock, 2000);
        Check.same("at the end", dock.isSound(), true);
    }

    /** What isSound() promises, by the other questions. */
    private static void sums(Crossdockery dock) {
        long balances = dock.balance(NONE);
        for (int lorry = 0; lorry < Docks.BUSY_LORRIES; lorry++) {
            balances += dock.balance(lorry);
        }
        Check.same("all balances together", balances, 0L);
    }
}
