import java.util.NoSuchElementException;

/** Promises 12 to 19, and what a minute does with lorries and goods. */
public final class GoodsTest {
    public static void main(String[] args) {
        wrongNumbers();
        states();
        queue();
        queueFillsDoors();
        unloading();
        delays();
        delayIsThatOfItsMinute();
        loading();
        leaving();
        leftBehind();
        Check.finish();
    }

    /** Four lorries: 0 and 1 bring, 2 and 3 take. */
    private static Crossdockery fourLorries() {
        Crossdockery dock = new Crossdockery();
        dock.addLorry(true, 0, 1);
        dock.addLorry(true, 0, 1);
        dock.addLorry(false, 0, 1);
        dock.addLorry(false, 0, 1);
        return dock;
    }

    private static void bringTo(Crossdockery dock, int lorry, int door) {
        dock.planDoor(lorry, door);
        dock.arrive(lorry);
    }

    private static int newGangAt(Crossdockery dock, int speed, int door) {
        int gang = dock.addGang(speed, 0, 2000);
        dock.moveGang(gang, door);
        return gang;
    }

    private static void wrongNumbers() {
        Crossdockery dock = fourLorries();
        dock.addTransfer(0, 2, 5);
        Class<IndexOutOfBoundsException> none = IndexOutOfBoundsException.class;
        for (int number : new int[] {-1, 4, Integer.MAX_VALUE, Integer.MIN_VALUE}) {
            Check.thrown("12 stateOf", none, () -> dock.stateOf(number));
            Check.thrown("13 lorryAt", none, () -> dock.lorryAt(number));
            Check.thrown("14 inQueue", none, () -> dock.inQueue(number, 0));
            Check.thrown("18 leftAt", none, () -> dock.leftAt(number));
        }
        for (int number : new int[] {-1, 1, Integer.MAX_VALUE, Integer.MIN_VALUE}) {
            Check.thrown("15 unloaded", none, () -> dock.unloaded(number));
            Check.thrown("16 ready", none, () -> dock.ready(number));
            Check.thrown("17 loaded", none, () -> dock.loaded(number));
        }
        Check.thrown("13 no lorry", NoSuchElementException.class, () -> dock.lorryAt(3));
        Check.thrown("18 not left", NoSuchElementException.class, () -> dock.leftAt(0));
    }

    private static void states() {
        Crossdockery dock = fourLorries();
        dock.addTransfer(0, 2, 1);
        Check.same("12 expected", dock.stateOf(0), 'e');
        bringTo(dock, 0, 3);
        Check.same("12 in the yard", dock.stateOf(0), 'y');
        Check.thrown("13 not in the yard", NoSuchElementException.class, () -> dock.lorryAt(3));
        Check.thrown("18 in the yard", NoSuchElementException.class, () -> dock.leftAt(0));
        dock.pass(1);
        Check.same("12 at a door", dock.stateOf(0), 'd');
        Check.same("13 at its door", dock.lorryAt(3), 0);
        Check.thrown("18 at a door", NoSuchElementException.class, () -> dock.leftAt(0));
        newGangAt(dock, 1, 3);
        dock.pass(1);
        Check.same("12 left", dock.stateOf(0), 'l');
        Check.thrown("13 has left", NoSuchElementException.class, () -> dock.lorryAt(3));
        Check.same("18 the minute behind", dock.leftAt(0), 2);
    }

    private static void queue() {
        Crossdockery dock = fourLorries();
        dock.addTransfer(0, 2, 5);
        dock.addTransfer(1, 3, 5);
        bringTo(dock, 3, 1);
        bringTo(dock, 1, 0);
        dock.pass(1);
        bringTo(dock, 2, 1);
        bringTo(dock, 0, 1);
        Check.same("13 the first got the door", dock.lorryAt(1), 3);
        Check.same("14 same minute, by numbers", dock.inQueue(1, 0), 0);
        Check.same("14 second", dock.inQueue(1, 1), 2);
        Class<NoSuchElementException> none = NoSuchElementException.class;
        Check.thrown("14 behind the end", none, () -> dock.inQueue(1, 2));
        Check.thrown("14 before the start", none, () -> dock.inQueue(1, -1));
        Check.thrown("14 greatest place", none, () -> dock.inQueue(1, Integer.MAX_VALUE));
        Check.thrown("14 the lorry at the door is not in it", none, () -> dock.inQueue(0, 0));
        dock.pass(1);
        dock.addLorry(true, 0, 1);
        dock.sendOff(0);
        dock.addLorry(true, 0, 1);
        bringTo(dock, 5, 1);
        dock.pass(1);
        bringTo(dock, 4, 1);
        Check.same("14 by minutes", dock.inQueue(1, 0), 2);
        Check.same("14 earlier before lower", dock.inQueue(1, 1), 5);
        Check.same("14 later", dock.inQueue(1, 2), 4);
        dock.planDoor(2, 2);
        Check.same("14 moved up", dock.inQueue(1, 0), 5);
        Check.same("14 another queue", dock.inQueue(2, 0), 2);
        dock.planDoor(2, 1);
        Check.same("14 back, by its minute", dock.inQueue(1, 0), 2);
    }

    private static void queueFillsDoors() {
        Crossdockery dock = fourLorries();
        dock.addTransfer(0, 2, 4);
        dock.addTransfer(1, 2, 4);
        bringTo(dock, 1, 0);
        bringTo(dock, 0, 0);
        newGangAt(dock, 4, 0);
        Check.same("9 first leaves", dock.pass(1), 1);
        Check.thrown("13 the door stays free up to the next minute", NoSuchElementException.class,
                () -> dock.lorryAt(0));
        Check.same("14 the next waits", dock.inQueue(0, 0), 1);
        Check.same("9 next leaves", dock.pass(1), 1);
        Check.same("18 first", dock.leftAt(0), 1);
        Check.same("18 next", dock.leftAt(1), 2);
    }

    private static void unloading() {
        Crossdockery dock = fourLorries();
        dock.addTransfer(0, 2, 3);
        dock.addTransfer(1, 2, 9);
        dock.addTransfer(0, 3, 4);
        bringTo(dock, 0, 2);
        newGangAt(dock, 1, 2);
        newGangAt(dock, 4, 2);
        newGangAt(dock, 9, 1);
        Check.same("15 nothing yet", dock.unloaded(0), 0);
        dock.pass(1);
        Check.same("15 lower numbers first", dock.unloaded(0), 3);
        Check.same("15 not of another lorry", dock.unloaded(1), 0);
        Check.same("15 the rest of the power", dock.unloaded(2), 2);
        Check.same("16 from the next minute on", dock.ready(0), 3);
        Check.same("12 stays", dock.stateOf(0), 'd');
        dock.pass(1);
        Check.same("15 no more than there are", dock.unloaded(2), 4);
        Check.same("12 leaves", dock.stateOf(0), 'l');
        dock.pass(3);
        Check.same("15 remains", dock.unloaded(0), 3);
        Check.same("17 nothing loaded", dock.loaded(0), 0);
    }

    private static void delays() {
        for (int from = 0; from < 4; from++) {
            for (int to = -1; to < 4; to++) {
                Crossdockery dock = fourLorries();
                dock.addTransfer(0, 2, 10);
                bringTo(dock, 0, from);
                if (to >= 0) {
                    dock.planDoor(2, to);
                }
                newGangAt(dock, 3, from);
                int delay = to < 0 ? 0 : Math.abs(from - to);
                for (int minute = 1; minute < 9; minute++) {
                    dock.pass(1);
                    int minutes = Math.max(0, minute - delay);
                    Check.same("16 from " + from + " to " + to + " at " + minute, dock.ready(0),
                            Math.min(10, 3 * minutes));
                }
            }
        }
    }

    private static void delayIsThatOfItsMinute() {
        Crossdockery dock = fourLorries();
        dock.addTransfer(0, 2, 6);
        bringTo(dock, 0, 0);
        dock.planDoor(2, 3);
        newGangAt(dock, 2, 0);
        dock.pass(1);
        dock.planDoor(2, 0);
        dock.pass(1);
        Check.same("16 the later units first", dock.ready(0), 2);
        dock.planDoor(2, 1);
        dock.pass(1);
        Check.same("16 none more", dock.ready(0), 2);
        dock.pass(1);
        Check.same("16 those of two minutes", dock.ready(0), 6);
    }

    private static void loading() {
        Crossdockery dock = fourLorries();
        dock.addTransfer(1, 2, 2);
        dock.addTransfer(0, 2, 6);
        dock.addTransfer(0, 3, 1);
        bringTo(dock, 0, 0);
        bringTo(dock, 2, 1);
        newGangAt(dock, 4, 0);
        newGangAt(dock, 3, 1);
        dock.pass(1);
        Check.same("17 nothing ready", dock.loaded(1), 0);
        Check.same("16 on the way", dock.ready(1), 0);
        dock.pass(1);
        Check.same("16 arrives", dock.ready(1), 4);
        Check.same("17 not in its minute", dock.loaded(1), 0);
        dock.pass(1);
        Check.same("17 as the power", dock.loaded(1), 3);
        Check.same("16 the rest and the next", dock.ready(1), 3);
        bringTo(dock, 1, 1);
        dock.planDoor(1, 0);
        dock.pass(1);
        Check.same("17 all that is ready", dock.loaded(1), 6);
        Check.same("16 none left", dock.ready(1), 0);
        Check.same("15 the other lorry", dock.unloaded(0), 2);
        Check.same("12 waits for it", dock.stateOf(2), 'd');
        Check.same("16 for another lorry", dock.ready(2), 1);
        dock.pass(1);
        Check.same("9 leaves", dock.pass(1), 1);
        Check.same("17 all", dock.loaded(0), 2);
        Check.same("18 left", dock.leftAt(2), 6);
        Check.same("17 not for another lorry", dock.loaded(2), 0);
    }

    private static void leaving() {
        Crossdockery dock = fourLorries();
        dock.addTransfer(0, 2, 1);
        bringTo(dock, 1, 0);
        bringTo(dock, 3, 1);
        bringTo(dock, 2, 2);
        Check.same("9 those without transfers", dock.pass(4), 2);
        Check.same("18 brings", dock.leftAt(1), 1);
        Check.same("18 takes", dock.leftAt(3), 1);
        Check.same("12 with a transfer", dock.stateOf(2), 'd');
        dock.sendOff(2);
        Check.same("18 sent off", dock.leftAt(2), 4);
        dock.pass(3);
        Check.same("18 remains", dock.leftAt(2), 4);
    }

    private static void leftBehind() {
        Crossdockery dock = fourLorries();
        dock.addTransfer(0, 2, 5);
        dock.addTransfer(0, 3, 7);
        dock.addTransfer(1, 2, 11);
        bringTo(dock, 0, 0);
        bringTo(dock, 2, 1);
        newGangAt(dock, 4, 0);
        newGangAt(dock, 3, 1);
        dock.pass(3);
        Check.same("19 nobody has left behind", dock.leftBehind(), 0);
        Check.same("6 takes", dock.sendOff(2), 13);
        Check.same("19 not loaded", dock.leftBehind(), 13);
        bringTo(dock, 1, 2);
        Check.same("6 brings", dock.sendOff(1), 11);
        Check.same("19 those that bring count not", dock.leftBehind(), 13);
        dock.pass(3);
        Check.same("19 remains", dock.leftBehind(), 13);
    }
}
