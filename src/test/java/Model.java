import java.util.ArrayList;
import java.util.Comparator;
import java.util.List;
import java.util.NoSuchElementException;

/**
 * The document's words once more, in a form as unlike the program's as could be: single units, and a list of all
 * waited minutes. The answers of both are compared by ModelTest.
 */
final class Model {
    private static final class Lorry {
        boolean brings;
        int planned;
        int rate;
        Integer door;
        char state = 'e';
        int arrivedAt;
        int leftAt;
    }

    private static final class Unit {
        Integer unloadedIn;
        int readyFrom;
        Integer loadedIn;
    }

    private static final class Transfer {
        int from;
        int to;
        List<Unit> units = new ArrayList<>();
    }

    private static final class Gang {
        int speed;
        int from;
        int to;
        int door = -1;
    }

    private static final class Wait {
        int minute;
        int lorry;
        int debtor;
    }

    private final List<Lorry> lorries = new ArrayList<>();
    private final List<Transfer> transfers = new ArrayList<>();
    private final List<Gang> gangs = new ArrayList<>();
    private final List<Wait> waits = new ArrayList<>();
    private int now = 0;

    private Lorry lorry(int number) {
        if (number < 0 || number >= lorries.size()) {
            throw new IndexOutOfBoundsException();
        }
        return lorries.get(number);
    }

    private Transfer transfer(int number) {
        if (number < 0 || number >= transfers.size()) {
            throw new IndexOutOfBoundsException();
        }
        return transfers.get(number);
    }

    private static void door(int number) {
        if (number < 0 || number > 3) {
            throw new IndexOutOfBoundsException();
        }
    }

    int addLorry(boolean brings, int planned, int rate) {
        if (planned < 0 || planned > 1999 || rate < 1 || rate > 99) {
            throw new IllegalArgumentException();
        }
        if (lorries.size() == 8) {
            throw new IllegalStateException();
        }
        Lorry lorry = new Lorry();
        lorry.brings = brings;
        lorry.planned = planned;
        lorry.rate = rate;
        lorries.add(lorry);
        return lorries.size() - 1;
    }

    int addTransfer(int from, int to, int units) {
        Lorry bringing = lorry(from);
        Lorry taking = lorry(to);
        if (!bringing.brings || taking.brings || units < 1 || units > 99) {
            throw new IllegalArgumentException();
        }
        if ("dl".indexOf(bringing.state) >= 0 || "dl".indexOf(taking.state) >= 0 || transfers.size() == 16) {
            throw new IllegalStateException();
        }
        Transfer transfer = new Transfer();
        transfer.from = from;
        transfer.to = to;
        for (int i = 0; i < units; i++) {
            transfer.units.add(new Unit());
        }
        transfers.add(transfer);
        return transfers.size() - 1;
    }

    int planDoor(int number, int door) {
        Lorry lorry = lorry(number);
        door(door);
        if (lorry.state == 'd' || lorry.state == 'l') {
            throw new IllegalStateException();
        }
        Integer before = lorry.door;
        lorry.door = door;
        return before == null ? -1 : before;
    }

    int arrive(int number) {
        Lorry lorry = lorry(number);
        if (lorry.state != 'e') {
            throw new IllegalStateException();
        }
        if (lorry.door == null) {
            throw new UnsupportedOperationException();
        }
        lorry.state = 'y';
        lorry.arrivedAt = now;
        return (int) lorries.stream().filter(other -> other.state == 'y').count();
    }

    int sendOff(int number) {
        Lorry lorry = lorry(number);
        if (lorry.state != 'y' && lorry.state != 'd') {
            throw new IllegalStateException();
        }
        lorry.state = 'l';
        lorry.leftAt = now;
        return unitsToDo(number);
    }

    int addGang(int speed, int from, int to) {
        if (speed < 1 || speed > 9 || from < 0 || from > 1999 || to <= from || to > 2000) {
            throw new IllegalArgumentException();
        }
        if (gangs.size() == 4) {
            throw new IllegalStateException();
        }
        Gang gang = new Gang();
        gang.speed = speed;
        gang.from = from;
        gang.to = to;
        gangs.add(gang);
        return gangs.size() - 1;
    }

    int moveGang(int number, int door) {
        if (number < 0 || number >= gangs.size() || door < -1 || door > 3) {
            throw new IndexOutOfBoundsException();
        }
        int before = gangs.get(number).door;
        gangs.get(number).door = door;
        return before;
    }

    int pass(int minutes) {
        if (minutes < 1 || minutes > 300) {
            throw new IllegalArgumentException();
        }
        if (now + minutes > 2000) {
            throw new IllegalStateException();
        }
        int gone = 0;
        for (int i = 0; i < minutes; i++) {
            gone += passOne();
        }
        return gone;
    }

    private int passOne() {
        Integer[] there = new Integer[4];
        for (int door = 0; door < 4; door++) {
            there[door] = atDoor(door);
            if (there[door] == null && !queue(door).isEmpty()) {
                there[door] = queue(door).get(0);
                lorries.get(there[door]).state = 'd';
            }
        }
        for (int door = 0; door < 4; door++) {
            for (int i = 0; i < power(door) && there[door] != null; i++) {
                handleOne(there[door]);
            }
        }
        int gone = 0;
        for (int door = 0; door < 4; door++) {
            if (there[door] != null && unitsToDo(there[door]) == 0) {
                lorries.get(there[door]).state = 'l';
                lorries.get(there[door]).leftAt = now + 1;
                gone++;
            }
        }
        List<Wait> these = new ArrayList<>();
        for (int number = 0; number < lorries.size(); number++) {
            char state = lorries.get(number).state;
            if ((state == 'y' || state == 'd') && !wasHandled(number)) {
                Wait wait = new Wait();
                wait.minute = now;
                wait.lorry = number;
                wait.debtor = debtorNow(number, there);
                these.add(wait);
            }
        }
        waits.addAll(these);
        now++;
        return gone;
    }

    private Integer atDoor(int door) {
        for (int number = 0; number < lorries.size(); number++) {
            if (lorries.get(number).state == 'd' && lorries.get(number).door == door) {
                return number;
            }
        }
        return null;
    }

    private List<Integer> queue(int door) {
        List<Integer> queue = new ArrayList<>();
        for (int number = 0; number < lorries.size(); number++) {
            if (lorries.get(number).state == 'y' && lorries.get(number).door == door) {
                queue.add(number);
            }
        }
        // The sort is stable: those of the same minute stay by their numbers.
        queue.sort(Comparator.comparingInt(number -> lorries.get(number).arrivedAt));
        return queue;
    }

    private void handleOne(int number) {
        for (Transfer transfer : transfers) {
            for (Unit unit : transfer.units) {
                if (transfer.from == number && unit.unloadedIn == null) {
                    Integer to = lorries.get(transfer.to).door;
                    int far = to == null ? 0 : Math.abs(to - lorries.get(number).door);
                    unit.unloadedIn = now;
                    unit.readyFrom = now + 1 + far;
                    return;
                }
                if (transfer.to == number && isReady(unit)) {
                    unit.loadedIn = now;
                    return;
                }
            }
        }
    }

    private boolean isReady(Unit unit) {
        return unit.unloadedIn != null && unit.readyFrom <= now && unit.loadedIn == null;
    }

    private int unitsToDo(int number) {
        int sum = 0;
        for (Transfer transfer : transfers) {
            for (Unit unit : transfer.units) {
                if (transfer.from == number && unit.unloadedIn == null
                        || transfer.to == number && unit.loadedIn == null) {
                    sum++;
                }
            }
        }
        return sum;
    }

    private boolean wasHandled(int number) {
        for (Transfer transfer : transfers) {
            for (Unit unit : transfer.units) {
                Integer minute = transfer.from == number ? unit.unloadedIn : unit.loadedIn;
                if ((transfer.from == number || transfer.to == number) && minute != null && minute == now) {
                    return true;
                }
            }
        }
        return false;
    }

    private int debtorNow(int number, Integer[] there) {
        Lorry lorry = lorries.get(number);
        if (now < lorry.planned || !lorry.brings && waited(number) < 5) {
            return -2;
        }
        if (lorry.state == 'd') {
            return debtorAtDoor(number);
        }
        int front = there[lorry.door];
        if (wasHandled(front)) {
            return lorries.get(front).arrivedAt > lorries.get(front).planned ? front : -1;
        }
        int debtor = debtorAtDoor(front);
        return debtor == -2 ? front : debtor;
    }

    private int debtorAtDoor(int number) {
        Lorry lorry = lorries.get(number);
        if (power(lorry.door) == 0 || lorry.brings) {
            return -1;
        }
        for (Transfer transfer : transfers) {
            if (transfer.to == number && transfer.units.stream().anyMatch(unit -> unit.unloadedIn == null)) {
                Lorry bringing = lorries.get(transfer.from);
                if (bringing.state == 'e') {
                    return bringing.planned <= now ? transfer.from : -2;
                }
                return -1;
            }
        }
        return -1;
    }

    int now() {
        return now;
    }

    int power(int door) {
        door(door);
        return gangs.stream().filter(gang -> gang.door == door && gang.from <= now && now < gang.to)
                .mapToInt(gang -> gang.speed).sum();
    }

    char stateOf(int number) {
        return lorry(number).state;
    }

    int lorryAt(int door) {
        door(door);
        Integer number = atDoor(door);
        if (number == null) {
            throw new NoSuchElementException();
        }
        return number;
    }

    int inQueue(int door, int place) {
        door(door);
        if (place < 0 || place >= queue(door).size()) {
            throw new NoSuchElementException();
        }
        return queue(door).get(place);
    }

    int unloaded(int number) {
        return (int) transfer(number).units.stream().filter(unit -> unit.unloadedIn != null).count();
    }

    int ready(int number) {
        return (int) transfer(number).units.stream().filter(this::isReady).count();
    }

    int loaded(int number) {
        return (int) transfer(number).units.stream().filter(unit -> unit.loadedIn != null).count();
    }

    int leftAt(int number) {
        if (lorry(number).state != 'l') {
            throw new NoSuchElementException();
        }
        return lorry(number).leftAt;
    }

    int leftBehind() {
        int sum = 0;
        for (Transfer transfer : transfers) {
            if (lorries.get(transfer.to).state == 'l') {
                sum += (int) transfer.units.stream().filter(unit -> unit.loadedIn == null).count();
            }
        }
        return sum;
    }

    int waited(int number) {
        lorry(number);
        return (int) waits.stream().filter(wait -> wait.lorry == number).count();
    }

    int ownMinutes(int number) {
        lorry(number);
        return (int) waits.stream().filter(wait -> wait.lorry == number && wait.debtor == -2).count();
    }

    int debtor(int number) {
        lorry(number);
        for (Wait wait : waits) {
            if (wait.lorry == number && wait.minute == now - 1) {
                return wait.debtor;
            }
        }
        throw new NoSuchElementException();
    }

    int invoice(int debtor, int number) {
        if (debtor != -1) {
            lorry(debtor);
        }
        Lorry lorry = lorry(number);
        return waits.stream().filter(wait -> wait.lorry == number && wait.debtor == debtor)
                .mapToInt(wait -> lorry.rate).sum();
    }

    long balance(int who) {
        if (who != -1) {
            lorry(who);
        }
        long sum = 0;
        for (Wait wait : waits) {
            long rate = lorries.get(wait.lorry).rate;
            sum += wait.lorry == who && wait.debtor != -2 ? rate : 0;
            sum -= wait.debtor == who ? rate : 0;
        }
        return sum;
    }

    double meanWait() {
        if (lorries.isEmpty()) {
            throw new ArithmeticException();
        }
        return (double) waits.size() / (double) lorries.size();
    }

    float dockShare() {
        if (waits.isEmpty()) {
            throw new ArithmeticException();
        }
        return (float) waits.stream().filter(wait -> wait.debtor == -1).count() / (float) waits.size();
    }

    int ways() {
        Integer[] doors = new Integer[lorries.size()];
        for (int number = 0; number < doors.length; number++) {
            doors[number] = lorries.get(number).door;
        }
        return waysBy(doors);
    }

    private int waysBy(Integer[] doors) {
        int sum = 0;
        for (Transfer transfer : transfers) {
            if (doors[transfer.from] != null && doors[transfer.to] != null) {
                sum += transfer.units.size() * Math.abs(doors[transfer.from] - doors[transfer.to]);
            }
        }
        return sum;
    }

    /** All plans are tried, counted in fours, the lowest expected lorry's door being the highest digit. */
    private Integer[] bestPlan() {
        List<Integer> expected = new ArrayList<>();
        Integer[] doors = new Integer[lorries.size()];
        for (int number = 0; number < doors.length; number++) {
            doors[number] = lorries.get(number).door;
            if (lorries.get(number).state == 'e') {
                expected.add(number);
            }
        }
        Integer[] best = null;
        for (int plan = 0; plan < 1 << 2 * expected.size(); plan++) {
            for (int i = 0; i < expected.size(); i++) {
                doors[expected.get(i)] = plan >> 2 * (expected.size() - 1 - i) & 3;
            }
            if (best == null || waysBy(doors) < waysBy(best)) {
                best = doors.clone();
            }
        }
        return best;
    }

    int leastWays() {
        return waysBy(bestPlan());
    }

    int bestDoor(int number) {
        if (lorry(number).state != 'e') {
            throw new IllegalStateException();
        }
        return bestPlan()[number];
    }
}
