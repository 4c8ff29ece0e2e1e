import java.util.NoSuchElementException;

/** Promises 7 to 11: gangs, their power, and minutes. */
public final class GangsTest {
    public static void main(String[] args) {
        addGang();
        moveGang();
        pass();
        passCountsThoseThatLeave();
        power();
        Check.finish();
    }

    private static void addGang() {
        Crossdockery dock = new Crossdockery();
        Class<IllegalArgumentException> bad = IllegalArgumentException.class;
        Check.thrown("7 speed 0", bad, () -> dock.addGang(0, 0, 1));
        Check.thrown("7 speed 10", bad, () -> dock.addGang(10, 0, 1));
        Check.thrown("7 from -1", bad, () -> dock.addGang(1, -1, 1));
        Check.thrown("7 from 2000", bad, () -> dock.addGang(1, 2000, 2000));
        Check.thrown("7 an empty shift", bad, () -> dock.addGang(1, 5, 5));
        Check.thrown("7 a shift backwards", bad, () -> dock.addGang(1, 5, 4));
        Check.thrown("7 to 2001", bad, () -> dock.addGang(1, 0, 2001));
        Check.same("7 least numbers", dock.addGang(1, 0, 1), 0);
        Check.same("7 greatest numbers", dock.addGang(9, 1999, 2000), 1);
        Check.same("7 third", dock.addGang(4, 3, 4), 2);
        Check.same("7 fourth", dock.addGang(4, 3, 4), 3);
        Check.thrown("7 a fifth", IllegalStateException.class, () -> dock.addGang(4, 3, 4));
        Check.thrown("7 a fifth out of range", bad, () -> dock.addGang(0, 3, 4));
        Check.thrown("7 nothing changed", IndexOutOfBoundsException.class, () -> dock.moveGang(4, 0));
        Check.same("7 at no door", dock.moveGang(0, -1), -1);
        Check.same("7 no power", dock.power(0), 0);
    }

    private static void moveGang() {
        Crossdockery dock = new Crossdockery();
        dock.addGang(5, 0, 2000);
        Class<IndexOutOfBoundsException> none = IndexOutOfBoundsException.class;
        Check.thrown("8 gang -1", none, () -> dock.moveGang(-1, 0));
        Check.thrown("8 gang 1", none, () -> dock.moveGang(1, 0));
        Check.thrown("8 door 4", none, () -> dock.moveGang(0, 4));
        Check.thrown("8 door OWN", none, () -> dock.moveGang(0, -2));
        Check.same("8 to a door", dock.moveGang(0, 3), -1);
        Check.same("8 to the same", dock.moveGang(0, 3), 3);
        Check.same("8 to another", dock.moveGang(0, 0), 3);
        Check.same("8 power there", dock.power(0), 5);
        Check.same("8 no power before", dock.power(3), 0);
        Check.same("8 away", dock.moveGang(0, -1), 0);
        Check.same("8 no power", dock.power(0), 0);
        Check.same("8 back", dock.moveGang(0, 1), -1);
    }

    private static void pass() {
        Crossdockery dock = new Crossdockery();
        Class<IllegalArgumentException> bad = IllegalArgumentException.class;
        Check.thrown("9 minutes 0", bad, () -> dock.pass(0));
        Check.thrown("9 minutes -1", bad, () -> dock.pass(-1));
        Check.thrown("9 minutes 301", bad, () -> dock.pass(301));
        Check.same("10 still 0", dock.now(), 0);
        Check.same("9 one", dock.pass(1), 0);
        Check.same("10 one", dock.now(), 1);
        for (int i = 0; i < 6; i++) {
            dock.pass(300);
        }
        Check.same("10 many", dock.now(), 1801);
        Check.thrown("9 beyond the end", IllegalStateException.class, () -> dock.pass(200));
        Check.same("10 nothing passed", dock.now(), 1801);
        dock.pass(199);
        Check.same("10 the end", dock.now(), 2000);
        Check.thrown("9 at the end", IllegalStateException.class, () -> dock.pass(1));
        Check.thrown("9 at the end, out of range", bad, () -> dock.pass(301));
    }

    private static void passCountsThoseThatLeave() {
        Crossdockery dock = new Crossdockery();
        for (int lorry = 0; lorry < 4; lorry++) {
            dock.addLorry(lorry % 2 == 0, 0, 1);
            dock.planDoor(lorry, 1);
            dock.arrive(lorry);
        }
        // Without transfers, each of them leaves in the minute in which it gets the door.
        Check.same("9 one a minute", dock.pass(1), 1);
        Check.same("9 by numbers", dock.stateOf(0), 'l');
        dock.sendOff(1);
        Check.same("9 without those sent off", dock.pass(2), 2);
        Check.same("9 the second minute", dock.leftAt(2), 2);
        Check.same("9 the third minute", dock.leftAt(3), 3);
        Check.same("9 none", dock.pass(5), 0);
    }

    private static void power() {
        Crossdockery dock = new Crossdockery();
        dock.addGang(2, 0, 2);
        dock.addGang(3, 1, 4);
        dock.addGang(9, 1, 3);
        dock.addGang(7, 1999, 2000);
        dock.moveGang(0, 2);
        dock.moveGang(1, 2);
        dock.moveGang(2, 1);
        dock.moveGang(3, 2);
        Check.thrown("11 door -1", IndexOutOfBoundsException.class, () -> dock.power(-1));
        Check.thrown("11 door 4", IndexOutOfBoundsException.class, () -> dock.power(4));
        int[] due = {2, 5, 3, 3, 0};
        for (int minute = 0; minute < due.length; minute++) {
            Check.same("11 power in the minute " + minute, dock.power(2), due[minute]);
            dock.pass(1);
        }
        dock.pass(294);
        for (int i = 0; i < 5; i++) {
            dock.pass(300);
        }
        dock.pass(200);
        Check.same("11 in the last minute", dock.power(2), 7);
        dock.pass(1);
        Check.same("11 at the end", dock.power(2), 0);
        Check.thrown("11 no lorry by power", NoSuchElementException.class, () -> dock.lorryAt(2));
    }
}
