/** Promises 28 to 31: ways, the best plan, and whether the books are sound. */
public final class PlanningTest {
    public static void main(String[] args) {
        ways();
        leastWaysIsNoneWithoutFixedDoors();
        leastWaysWithFixedDoors();
        leastWaysOfTheMostUnits();
        bestDoor();
        bestDoorOfTheLowestFirst();
        questionsChangeNothing();
        isSound();
        isSoundEndsWhateverWasCalled();
        Check.finish();
    }

    /** Lorries 0 to 3 bring, 4 to 7 take. */
    private static Crossdockery eightLorries() {
        Crossdockery dock = new Crossdockery();
        for (int lorry = 0; lorry < 8; lorry++) {
            dock.addLorry(lorry < 4, 0, 1);
        }
        return dock;
    }

    private static void bringTo(Crossdockery dock, int lorry, int door) {
        dock.planDoor(lorry, door);
        dock.arrive(lorry);
    }

    private static void ways() {
        Crossdockery dock = eightLorries();
        dock.addTransfer(0, 4, 10);
        dock.addTransfer(0, 5, 99);
        dock.addTransfer(0, 4, 1);
        Check.same("28 no doors", dock.ways(), 0);
        dock.planDoor(0, 3);
        Check.same("28 only one has a door", dock.ways(), 0);
        dock.planDoor(4, 1);
        Check.same("28 both have doors", dock.ways(), 22);
        dock.planDoor(5, 0);
        Check.same("28 all have doors", dock.ways(), 22 + 297);
        dock.planDoor(5, 3);
        Check.same("28 the same door", dock.ways(), 22);
        dock.arrive(4);
        dock.sendOff(4);
        Check.same("28 it has left", dock.ways(), 22);
    }

    private static void leastWaysIsNoneWithoutFixedDoors() {
        Crossdockery dock = eightLorries();
        dock.addTransfer(0, 4, 10);
        dock.addTransfer(3, 7, 10);
        dock.planDoor(0, 3);
        dock.planDoor(4, 0);
        Check.same("28 as planned", dock.ways(), 30);
        Check.same("29 as one liked", dock.leastWays(), 0);
        Check.same("30 the lowest door", dock.bestDoor(0), 0);
        Check.same("30 without transfers", dock.bestDoor(2), 0);
        Check.same("29 none without lorries", new Crossdockery().leastWays(), 0);
    }

    private static void leastWaysWithFixedDoors() {
        Crossdockery dock = eightLorries();
        dock.addTransfer(0, 4, 5);
        dock.addTransfer(1, 4, 3);
        dock.addTransfer(1, 5, 4);
        bringTo(dock, 0, 3);
        bringTo(dock, 5, 0);
        // Lorry 1 at 0 and lorry 4 at 3: 3 units over 3 doors; any other plan has more ways.
        Check.same("29 two are in the yard", dock.leastWays(), 9);
        Check.same("30 by the yard's door", dock.bestDoor(1), 0);
        Check.same("30 by the other one's", dock.bestDoor(4), 3);
        Check.same("28 no door for the others", dock.ways(), 0);
        bringTo(dock, 1, 1);
        Check.same("29 three are in the yard", dock.leastWays(), 6 + 4);
        dock.sendOff(0);
        Check.same("29 one that left keeps its door", dock.leastWays(), 6 + 4);
        dock.planDoor(5, 2);
        Check.same("29 the yard's doors as planned", dock.leastWays(), 6 + 4);
        dock.planDoor(5, 3);
        Check.same("29 and further", dock.leastWays(), 6 + 8);
    }

    private static void leastWaysOfTheMostUnits() {
        Crossdockery dock = eightLorries();
        for (int transfer = 0; transfer < 16; transfer++) {
            dock.addTransfer(0, 7, 99);
        }
        bringTo(dock, 0, 0);
        bringTo(dock, 7, 3);
        Check.same("28 the most", dock.ways(), 16 * 99 * 3);
        Check.same("29 the most", dock.leastWays(), 16 * 99 * 3);
        Check.same("30 at the most", dock.bestDoor(1), 0);
    }

    private static void bestDoor() {
        Crossdockery dock = eightLorries();
        dock.addTransfer(0, 4, 5);
        Class<IndexOutOfBoundsException> none = IndexOutOfBoundsException.class;
        Class<IllegalStateException> late = IllegalStateException.class;
        Check.thrown("30 lorry -1", none, () -> dock.bestDoor(-1));
        Check.thrown("30 lorry 8", none, () -> dock.bestDoor(8));
        bringTo(dock, 4, 2);
        Check.thrown("30 in the yard", late, () -> dock.bestDoor(4));
        Check.same("30 where it goes", dock.bestDoor(0), 2);
        dock.pass(1);
        Check.thrown("30 at a door", late, () -> dock.bestDoor(4));
        dock.sendOff(4);
        Check.thrown("30 has left", late, () -> dock.bestDoor(4));
        Check.same("30 still where it went", dock.bestDoor(0), 2);
        dock.planDoor(0, 1);
        Check.same("30 whatever is planned", dock.bestDoor(0), 2);
    }

    private static void bestDoorOfTheLowestFirst() {
        Crossdockery dock = eightLorries();
        dock.addTransfer(2, 5, 4);
        dock.addTransfer(2, 6, 4);
        dock.addTransfer(3, 4, 6);
        dock.addTransfer(3, 5, 6);
        dock.addTransfer(0, 7, 1);
        bringTo(dock, 6, 3);
        bringTo(dock, 4, 1);
        // Between the doors 1 and 3, each unit of lorry 2 costs as much; those of lorry 3 stay at 1.
        Check.same("29 a chain", dock.leastWays(), 8);
        Check.same("30 anywhere", dock.bestDoor(0), 0);
        Check.same("30 without transfers", dock.bestDoor(1), 0);
        Check.same("30 the lowest of several", dock.bestDoor(2), 1);
        Check.same("30 the next one", dock.bestDoor(3), 1);
        Check.same("30 the chain's middle", dock.bestDoor(5), 1);
        Check.same("30 with another", dock.bestDoor(7), 0);
    }

    private static void questionsChangeNothing() {
        Crossdockery dock = eightLorries();
        dock.addTransfer(0, 4, 5);
        dock.planDoor(0, 3);
        dock.planDoor(4, 1);
        dock.leastWays();
        dock.bestDoor(0);
        Check.same("28 as planned", dock.ways(), 10);
        Check.same("4 as planned", dock.planDoor(0, 3), 3);
    }

    private static void isSound() {
        Crossdockery dock = eightLorries();
        Check.same("31 nothing has happened", dock.isSound(), true);
        Check.same("31 no lorries", new Crossdockery().isSound(), true);
        dock.moveGang(dock.addGang(2, 3, 40), 1);
        for (int lorry = 0; lorry < 4; lorry++) {
            dock.addTransfer(lorry, 4 + lorry, 7);
        }
        for (int lorry = 0; lorry < 4; lorry++) {
            bringTo(dock, lorry, 1);
            bringTo(dock, 7 - lorry, lorry);
            dock.pass(3);
            Check.same("31 as it goes", dock.isSound(), true);
        }
        dock.sendOff(2);
        dock.pass(100);
        Check.same("31 at the end", dock.isSound(), true);
        Check.same("31 changes nothing", dock.now(), 112);
    }

    /** What isSound() answers behind the 512th call is free, but it answers. */
    private static void isSoundEndsWhateverWasCalled() {
        Crossdockery dock = new Crossdockery();
        dock.addLorry(true, 0, 1);
        for (int call = 0; call < 600; call++) {
            dock.planDoor(0, call % 4);
        }
        dock.addLorry(false, 0, 1);
        dock.isSound();
        Check.same("31 the books are asked", dock.now(), 0);
    }
}
