/** Promises 1 to 6: a new object, lorries and transfers, and their coming and going. */
public final class LorriesTest {
    public static void main(String[] args) {
        newObject();
        addLorry();
        addTransfer();
        addTransferBesideTheDoors();
        planDoor();
        arrive();
        sendOff();
        Check.finish();
    }

    private static void newObject() {
        Crossdockery dock = new Crossdockery();
        Check.same("1 now", dock.now(), 0);
        Check.same("1 ways", dock.ways(), 0);
        Check.same("1 leftBehind", dock.leftBehind(), 0);
        Check.same("1 balance of the dock", dock.balance(Crossdockery.NONE), 0L);
        Check.thrown("1 stateOf", IndexOutOfBoundsException.class, () -> dock.stateOf(0));
        Check.thrown("1 moveGang", IndexOutOfBoundsException.class, () -> dock.moveGang(0, 0));
        Check.thrown("1 unloaded", IndexOutOfBoundsException.class, () -> dock.unloaded(0));
        for (int door = 0; door < 4; door++) {
            int some = door;
            Check.same("1 power", dock.power(door), 0);
            Check.thrown("1 lorryAt", java.util.NoSuchElementException.class, () -> dock.lorryAt(some));
            Check.thrown("1 inQueue", java.util.NoSuchElementException.class, () -> dock.inQueue(some, 0));
        }
    }

    private static void addLorry() {
        Crossdockery dock = new Crossdockery();
        Class<IllegalArgumentException> bad = IllegalArgumentException.class;
        Check.thrown("2 planned -1", bad, () -> dock.addLorry(true, -1, 5));
        Check.thrown("2 planned 2000", bad, () -> dock.addLorry(true, 2000, 5));
        Check.thrown("2 rate 0", bad, () -> dock.addLorry(false, 0, 0));
        Check.thrown("2 rate 100", bad, () -> dock.addLorry(false, 0, 100));
        Check.thrown("2 least ints", bad, () -> dock.addLorry(false, Integer.MIN_VALUE, Integer.MIN_VALUE));
        Check.same("2 least numbers", dock.addLorry(true, 0, 1), 0);
        Check.same("2 greatest numbers", dock.addLorry(false, 1999, 99), 1);
        Check.same("2 is expected", dock.stateOf(1), 'e');
        Check.thrown("2 no planned door", UnsupportedOperationException.class, () -> dock.arrive(1));
        for (int number = 2; number < 8; number++) {
            Check.same("2 number", dock.addLorry(number % 2 == 0, 5, 5), number);
        }
        Check.thrown("2 a ninth", IllegalStateException.class, () -> dock.addLorry(true, 5, 5));
        Check.thrown("2 a ninth out of range", bad, () -> dock.addLorry(true, 5, 0));
        Check.thrown("2 nothing changed", IndexOutOfBoundsException.class, () -> dock.stateOf(8));
    }

    private static void addTransfer() {
        Crossdockery dock = new Crossdockery();
        dock.addLorry(true, 0, 1);
        dock.addLorry(false, 0, 1);
        Class<IndexOutOfBoundsException> none = IndexOutOfBoundsException.class;
        Class<IllegalArgumentException> bad = IllegalArgumentException.class;
        Check.thrown("3 from -1", none, () -> dock.addTransfer(-1, 1, 0));
        Check.thrown("3 from 2", none, () -> dock.addTransfer(2, 1, 0));
        Check.thrown("3 to -1", none, () -> dock.addTransfer(0, -1, 0));
        Check.thrown("3 to 2", none, () -> dock.addTransfer(1, 2, 0));
        Check.thrown("3 from takes", bad, () -> dock.addTransfer(1, 1, 5));
        Check.thrown("3 to brings", bad, () -> dock.addTransfer(0, 0, 5));
        Check.thrown("3 units 0", bad, () -> dock.addTransfer(0, 1, 0));
        Check.thrown("3 units 100", bad, () -> dock.addTransfer(0, 1, 100));
        Check.same("3 least units", dock.addTransfer(0, 1, 1), 0);
        Check.same("3 greatest units", dock.addTransfer(0, 1, 99), 1);
        for (int number = 2; number < 16; number++) {
            Check.same("3 number", dock.addTransfer(0, 1, 2), number);
        }
        Check.thrown("3 a seventeenth", IllegalStateException.class, () -> dock.addTransfer(0, 1, 2));
        Check.thrown("3 a seventeenth out of range", bad, () -> dock.addTransfer(0, 1, 0));
        Check.thrown("3 nothing changed", none, () -> dock.loaded(16));
    }

    private static void addTransferBesideTheDoors() {
        Crossdockery dock = new Crossdockery();
        dock.addLorry(true, 0, 1);
        dock.addLorry(false, 0, 1);
        dock.addLorry(true, 0, 1);
        dock.addLorry(false, 0, 1);
        dock.planDoor(0, 0);
        dock.planDoor(1, 1);
        dock.arrive(0);
        dock.arrive(1);
        Check.same("3 in the yard", dock.addTransfer(0, 1, 5), 0);
        dock.pass(1);
        Class<IllegalStateException> late = IllegalStateException.class;
        Check.thrown("3 from at a door", late, () -> dock.addTransfer(0, 3, 5));
        Check.thrown("3 to at a door", late, () -> dock.addTransfer(2, 1, 5));
        Check.thrown("3 units before doors", IllegalArgumentException.class, () -> dock.addTransfer(0, 3, 0));
        dock.sendOff(0);
        dock.sendOff(1);
        Check.thrown("3 from has left", late, () -> dock.addTransfer(0, 3, 5));
        Check.thrown("3 to has left", late, () -> dock.addTransfer(2, 1, 5));
        Check.same("3 the others", dock.addTransfer(2, 3, 5), 1);
    }

    private static void planDoor() {
        Crossdockery dock = new Crossdockery();
        dock.addLorry(true, 0, 1);
        dock.addLorry(false, 0, 1);
        dock.addTransfer(0, 1, 5);
        Class<IndexOutOfBoundsException> none = IndexOutOfBoundsException.class;
        Check.thrown("4 lorry -1", none, () -> dock.planDoor(-1, 0));
        Check.thrown("4 lorry 2", none, () -> dock.planDoor(2, 0));
        Check.thrown("4 door 4", none, () -> dock.planDoor(0, 4));
        Check.thrown("4 door NONE", none, () -> dock.planDoor(0, -1));
        Check.same("4 first", dock.planDoor(0, 3), -1);
        Check.same("4 in place", dock.planDoor(0, 0), 3);
        Check.same("4 the same", dock.planDoor(0, 0), 0);
        dock.arrive(0);
        Check.same("4 in the yard", dock.planDoor(0, 2), 0);
        Check.same("4 the queue follows", dock.inQueue(2, 0), 0);
        dock.pass(1);
        Class<IllegalStateException> late = IllegalStateException.class;
        Check.thrown("4 at a door", late, () -> dock.planDoor(0, 1));
        Check.thrown("4 at a door, no door", none, () -> dock.planDoor(0, 4));
        Check.same("4 still there", dock.lorryAt(2), 0);
        dock.sendOff(0);
        Check.thrown("4 has left", late, () -> dock.planDoor(0, 1));
    }

    private static void arrive() {
        Crossdockery dock = new Crossdockery();
        dock.addLorry(true, 0, 1);
        dock.addLorry(false, 9, 1);
        dock.addTransfer(0, 1, 5);
        Check.thrown("5 lorry -1", IndexOutOfBoundsException.class, () -> dock.arrive(-1));
        Check.thrown("5 lorry 2", IndexOutOfBoundsException.class, () -> dock.arrive(2));
        Check.thrown("5 no door", UnsupportedOperationException.class, () -> dock.arrive(0));
        Check.same("5 still expected", dock.stateOf(0), 'e');
        dock.planDoor(0, 0);
        dock.planDoor(1, 0);
        Check.same("5 first", dock.arrive(0), 1);
        Check.thrown("5 in the yard", IllegalStateException.class, () -> dock.arrive(0));
        Check.same("5 before its minute", dock.arrive(1), 2);
        Check.same("5 in the yard", dock.stateOf(1), 'y');
        dock.pass(1);
        Check.thrown("5 at a door", IllegalStateException.class, () -> dock.arrive(0));
        dock.sendOff(0);
        Check.thrown("5 has left", IllegalStateException.class, () -> dock.arrive(0));
        dock.addLorry(true, 0, 1);
        dock.planDoor(2, 3);
        Check.same("5 of those in the yard", dock.arrive(2), 2);
    }

    private static void sendOff() {
        Crossdockery dock = new Crossdockery();
        dock.addLorry(true, 0, 1);
        dock.addLorry(false, 0, 1);
        dock.addLorry(false, 0, 1);
        dock.addTransfer(0, 1, 5);
        dock.addTransfer(0, 2, 7);
        dock.addGang(3, 0, 2000);
        dock.moveGang(0, 0);
        Check.thrown("6 lorry -1", IndexOutOfBoundsException.class, () -> dock.sendOff(-1));
        Check.thrown("6 lorry 3", IndexOutOfBoundsException.class, () -> dock.sendOff(3));
        Check.thrown("6 is expected", IllegalStateException.class, () -> dock.sendOff(0));
        dock.planDoor(0, 0);
        dock.planDoor(1, 0);
        dock.planDoor(2, 1);
        dock.arrive(0);
        dock.pass(3);
        dock.arrive(1);
        dock.arrive(2);
        Check.same("6 brings, at a door", dock.sendOff(0), 3);
        Check.same("6 left now", dock.leftAt(0), 3);
        Check.thrown("6 the door is free", java.util.NoSuchElementException.class, () -> dock.lorryAt(0));
        dock.pass(1);
        Check.same("6 takes, at a door", dock.sendOff(1), 2);
        Check.thrown("6 has left", IllegalStateException.class, () -> dock.sendOff(1));
        Check.same("6 takes, at a door, nothing loaded", dock.sendOff(2), 7);
        dock.addLorry(false, 0, 1);
        dock.planDoor(3, 2);
        dock.arrive(3);
        Check.same("6 in the yard, no transfers", dock.sendOff(3), 0);
        Check.same("6 from the yard", dock.stateOf(3), 'l');
        Check.thrown("6 out of the queue", java.util.NoSuchElementException.class, () -> dock.inQueue(2, 0));
    }
}
