import java.lang.management.ManagementFactory;
import java.util.function.Consumer;

/** All calls of one run live in one room: the dearest calls, made as often as can be, leave most of it free. */
public final class RoomTest {
    // An object takes 16 bytes at least: so many bytes are less than 600,000 objects and 7.3 million elements.
    private static final long MOST_BYTES = 16L * 600_000 / 2;

    public static void main(String[] args) {
        room("invoiceAnew", dock -> dock.invoiceAnew(0, 1));
        room("isSound", dock -> dock.isSound());
        room("leastWays", dock -> dock.leastWays());
        room("bestDoor", dock -> dock.bestDoor(0));
        room("pass", dock -> dock.pass(1));
        room("planDoor", dock -> dock.planDoor(0, 1));
        room("meanWait", dock -> dock.meanWait());
        room("balance", dock -> dock.balance(0));
        Check.finish();
    }

    private static void room(String name, Consumer<Crossdockery> call) {
        com.sun.management.ThreadMXBean threads =
                (com.sun.management.ThreadMXBean) ManagementFactory.getThreadMXBean();
        Crossdockery dock = Docks.full();
        for (int lorry = 3; lorry < 8; lorry++) {
            Docks.arriveAt(dock, lorry, lorry % 4);
        }
        Docks.passTo(dock, 1400);
        call.accept(dock);
        long before = threads.getCurrentThreadAllocatedBytes();
        for (int i = 0; i < 450; i++) {
            call.accept(dock);
        }
        long bytes = threads.getCurrentThreadAllocatedBytes() - before;
        Check.same(name + " takes " + bytes + " bytes, which is too many", bytes > MOST_BYTES, false);
        System.out.println(name + ": " + bytes + " bytes");
    }
}
