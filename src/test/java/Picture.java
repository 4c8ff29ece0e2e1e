import java.util.function.Supplier;

/** All that can be asked of a dock, as one text: docks with the same answers have the same picture. */
final class Picture {
    // With the calls that made the dock, they stay under the 512 for which an object is used.
    private static final int MOST_CALLS = 400;

    private final Crossdockery dock;
    private final StringBuilder text = new StringBuilder();
    private int calls = 0;

    private Picture(Crossdockery dock) {
        this.dock = dock;
    }

    static String of(Crossdockery dock) {
        Picture picture = new Picture(dock);
        picture.askAll();
        return picture.text.toString();
    }

    /** What no question asks, such as the doors of gangs, comes to light by calls that change the dock. */
    static String ofFuture(Crossdockery dock) {
        Picture picture = new Picture(dock);
        picture.goOn();
        picture.askAll();
        return picture.text.toString();
    }

    /** Prints only the first line that differs. */
    static void same(String what, String got, String due) {
        String[] gotLines = got.split("\n");
        String[] dueLines = due.split("\n");
        for (int i = 0; i < gotLines.length && i < dueLines.length; i++) {
            if (!gotLines[i].equals(dueLines[i])) {
                Check.same(what, gotLines[i], dueLines[i]);
                return;
            }
        }
        Check.same(what, gotLines.length, dueLines.length);
    }

    private void goOn() {
        ask("pass 2", () -> dock.pass(2));
        for (int i = 0; i < 8; i++) {
            int lorry = i;
            ask("planDoor " + i, () -> dock.planDoor(lorry, (lorry + 1) % 4));
            ask("arrive " + i, () -> dock.arrive(lorry));
        }
        for (int i = 0; i < 4; i++) {
            int gang = i;
            ask("moveGang " + i, () -> dock.moveGang(gang, (gang + 2) % 4));
        }
        ask("pass 6", () -> dock.pass(6));
    }

    private void askAll() {
        askOfAll();
        for (int i = 0; askOfDoor(i); i++) {
            text.append('\n');
        }
        for (int i = 0; askOfTransfer(i); i++) {
            text.append('\n');
        }
        for (int i = 0; askOfLorry(i); i++) {
            text.append('\n');
        }
        Check.same("a picture with few calls", calls <= MOST_CALLS, true);
    }

    private void askOfAll() {
        ask("now", dock::now);
        ask("leftBehind", dock::leftBehind);
        ask("meanWait", dock::meanWait);
        ask("dockShare", dock::dockShare);
        ask("ways", dock::ways);
        ask("leastWays", dock::leastWays);
        ask("isSound", dock::isSound);
        ask("balance of the dock", () -> dock.balance(Crossdockery.NONE));
    }

    private boolean askOfDoor(int door) {
        if (!ask("power " + door, () -> dock.power(door))) {
            return false;
        }
        ask("lorryAt " + door, () -> dock.lorryAt(door));
        boolean isPlace = true;
        for (int i = 0; isPlace; i++) {
            int place = i;
            isPlace = ask("inQueue " + door + " " + place, () -> dock.inQueue(door, place));
        }
        return true;
    }

    private boolean askOfTransfer(int transfer) {
        if (!ask("unloaded " + transfer, () -> dock.unloaded(transfer))) {
            return false;
        }
        ask("ready " + transfer, () -> dock.ready(transfer));
        ask("loaded " + transfer, () -> dock.loaded(transfer));
        return true;
    }

    private boolean askOfLorry(int lorry) {
        if (!ask("stateOf " + lorry, () -> dock.stateOf(lorry))) {
            return false;
        }
        ask("leftAt " + lorry, () -> dock.leftAt(lorry));
        ask("waited " + lorry, () -> dock.waited(lorry));
        ask("ownMinutes " + lorry, () -> dock.ownMinutes(lorry));
        ask("debtor " + lorry, () -> dock.debtor(lorry));
        ask("balance " + lorry, () -> dock.balance(lorry));
        ask("bestDoor " + lorry, () -> dock.bestDoor(lorry));
        boolean isDebtor = true;
        for (int i = Crossdockery.NONE; isDebtor; i++) {
            int debtor = i;
            isDebtor = ask("invoice " + debtor + " " + lorry, () -> dock.invoice(debtor, lorry));
            ask("invoiceAnew " + debtor + " " + lorry, () -> dock.invoiceAnew(debtor, lorry));
        }
        return true;
    }

    private boolean ask(String name, Supplier<Object> call) {
        calls++;
        text.append(name).append(" = ");
        try {
            text.append(call.get()).append('\n');
            return true;
        } catch (RuntimeException e) {
            text.append("throws ").append(Check.nameOf(e)).append('\n');
            return false;
        }
    }
}
