import java.util.function.Supplier;

/** Runs of calls on the program and on the model, whose answers and exceptions must be the same. */
public final class ModelTest {
    private static final int RUNS = 600;
    private static final int MOST_CALLS = 512;

    private long seed;
    private int made = 0;
    private final StringBuilder calls = new StringBuilder();
    private final Crossdockery dock = new Crossdockery();
    private final Model model = new Model();

    private ModelTest(long seed) {
        this.seed = seed * 7919 + 17;
    }

    public static void main(String[] args) {
        for (int run = 0; run < RUNS && Check.countWrong() == 0; run++) {
            new ModelTest(run).run(run % 5 == 0);
        }
        Check.finish();
    }

    /** A fixed row of numbers, the same on each machine. */
    private int number(int from, int to) {
        seed = seed * 6364136223846793005L + 1442695040888963407L;
        return from + (int) Math.floorMod(seed >>> 33, (long) (to - from + 1));
    }

    private void run(boolean isWild) {
        int lorries = number(2, 8);
        for (int i = 0; i < lorries; i++) {
            addLorry(i % 2 == 0, number(0, 30));
        }
        int transfers = number(1, 16);
        for (int i = 0; i < transfers; i++) {
            addTransfer(number(0, lorries - 1) & ~1, number(0, lorries - 1) | 1);
        }
        for (int i = number(1, 4); i > 0; i--) {
            addGang(number(1, 9), number(0, 20));
        }
        for (int i = 0; i < 60; i++) {
            event(isWild ? number(0, 14) : number(0, 11));
            for (int j = 0; j < 4; j++) {
                ask(number(0, 22));
            }
        }
        while (made < MOST_CALLS && Check.countWrong() == 0) {
            ask(number(0, 22));
        }
    }

    private void event(int kind) {
        int lorry = number(-1, 8);
        int door = number(-2, 4);
        int gang = number(-1, 4);
        switch (kind) {
            case 0, 1, 2 -> same("planDoor", lorry, door, () -> dock.planDoor(lorry, door),
                    () -> model.planDoor(lorry, door));
            case 3, 4, 5 -> same("arrive", lorry, 0, () -> dock.arrive(lorry), () -> model.arrive(lorry));
            case 6, 7 -> same("moveGang", gang, door, () -> dock.moveGang(gang, door),
                    () -> model.moveGang(gang, door));
            case 8, 9, 10 -> passMinutes(number(1, 6));
            case 11 -> sendOffSeldom(lorry);
            case 12 -> passMinutes(number(-1, 301));
            case 13 -> addTransfer(number(-1, 8), number(-1, 8));
            default -> addMore();
        }
    }

    private void sendOffSeldom(int lorry) {
        if (number(0, 4) == 0) {
            same("sendOff", lorry, 0, () -> dock.sendOff(lorry), () -> model.sendOff(lorry));
        }
    }

    private void addMore() {
        if (number(0, 1) == 0) {
            addGang(number(0, 10), number(-1, 300));
        } else {
            addLorry(number(0, 1) == 0, number(-1, 400));
        }
    }

    private void addLorry(boolean brings, int planned) {
        int rate = number(1, 99);
        same("addLorry " + brings + " " + planned, rate, 0, () -> dock.addLorry(brings, planned, rate),
                () -> model.addLorry(brings, planned, rate));
    }

    private void addTransfer(int from, int to) {
        int units = number(0, 9) == 0 ? number(0, 100) : number(1, 15);
        same("addTransfer " + units, from, to, () -> dock.addTransfer(from, to, units),
                () -> model.addTransfer(from, to, units));
    }

    private void addGang(int speed, int from) {
        int to = from + (number(0, 2) == 0 ? number(0, 30) : number(100, 2000));
        int end = Math.min(to, 2001);
        same("addGang " + speed, from, end, () -> dock.addGang(speed, from, end),
                () -> model.addGang(speed, from, end));
    }

    private void passMinutes(int minutes) {
        same("pass", minutes, 0, () -> dock.pass(minutes), () -> model.pass(minutes));
    }

    private void ask(int kind) {
        int lorry = number(0, 9) == 0 ? number(-3, 9) : number(0, 7);
        int other = number(0, 9) == 0 ? number(-3, 9) : number(-1, 7);
        int transfer = number(0, 9) == 0 ? number(-1, 16) : number(0, 7);
        int door = number(-1, 4);
        int place = number(-1, 3);
        switch (kind) {
            case 0 -> same("now", 0, 0, dock::now, model::now);
            case 1 -> same("power", door, 0, () -> dock.power(door), () -> model.power(door));
            case 2 -> same("stateOf", lorry, 0, () -> dock.stateOf(lorry), () -> model.stateOf(lorry));
            case 3 -> same("lorryAt", door, 0, () -> dock.lorryAt(door), () -> model.lorryAt(door));
            case 4 -> same("inQueue", door, place, () -> dock.inQueue(door, place),
                    () -> model.inQueue(door, place));
            case 5 -> same("unloaded", transfer, 0, () -> dock.unloaded(transfer),
                    () -> model.unloaded(transfer));
            case 6 -> same("ready", transfer, 0, () -> dock.ready(transfer), () -> model.ready(transfer));
            case 7 -> same("loaded", transfer, 0, () -> dock.loaded(transfer), () -> model.loaded(transfer));
            case 8 -> same("leftAt", lorry, 0, () -> dock.leftAt(lorry), () -> model.leftAt(lorry));
            case 9 -> same("leftBehind", 0, 0, dock::leftBehind, model::leftBehind);
            case 10 -> same("waited", lorry, 0, () -> dock.waited(lorry), () -> model.waited(lorry));
            case 11 -> same("ownMinutes", lorry, 0, () -> dock.ownMinutes(lorry),
                    () -> model.ownMinutes(lorry));
            case 12, 13 -> same("debtor", lorry, 0, () -> dock.debtor(lorry), () -> model.debtor(lorry));
            case 14, 15 -> same("invoice", other, lorry, () -> dock.invoice(other, lorry),
                    () -> model.invoice(other, lorry));
            case 16 -> same("invoiceAnew", other, lorry, () -> dock.invoiceAnew(other, lorry),
                    () -> model.invoice(other, lorry));
            case 17 -> same("balance", other, 0, () -> dock.balance(other), () -> model.balance(other));
            case 18 -> same("meanWait", 0, 0, dock::meanWait, model::meanWait);
            case 19 -> same("dockShare", 0, 0, dock::dockShare, model::dockShare);
            case 20 -> same("ways", 0, 0, dock::ways, model::ways);
            case 21 -> same("isSound", 0, 0, dock::isSound, () -> true);
            default -> askForPlans(lorry);
        }
    }

    /** The model tries all plans: it is asked seldom. */
    private void askForPlans(int lorry) {
        if (number(0, 5) == 0) {
            same("leastWays", 0, 0, dock::leastWays, model::leastWays);
            same("bestDoor", lorry, 0, () -> dock.bestDoor(lorry), () -> model.bestDoor(lorry));
        }
    }

    private void same(String name, int first, int second, Supplier<Object> program, Supplier<Object> due) {
        if (made >= MOST_CALLS || Check.countWrong() > 0) {
            return;
        }
        made++;
        calls.append(name).append(' ').append(first).append(' ').append(second).append('\n');
        Check.same(name, answer(program), answer(due));
        if (Check.countWrong() > 0) {
            System.out.println("behind the calls\n" + calls);
        }
    }

    private static Object answer(Supplier<Object> call) {
        try {
            return call.get();
        } catch (RuntimeException e) {
            return "throws." + Check.nameOf(e);
        }
    }
}
