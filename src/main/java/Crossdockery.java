import java.util.ArrayList;
import java.util.NoSuchElementException;

/** A cross dock: lorries bring goods that other lorries take on, and who makes one wait owes it money. */
public final class Crossdockery {
    public static final int NONE = -1;
    public static final int OWN = -2;

    private static final int MOST_LORRIES = 8;
    private static final int MOST_TRANSFERS = 16;
    private static final int MOST_GANGS = 4;
    private static final int MOST_EVENTS = 512;
    private static final int DOORS = 4;
    private static final int LAST_MINUTE = 2000;
    private static final int MOST_MINUTES_AT_ONCE = 300;
    private static final int MOST_UNITS = 99;
    private static final int MOST_RATE = 99;
    private static final int MOST_SPEED = 9;
    private static final int FREE_MINUTES_WHEN_TAKING = 5;
    private static final int MORE_THAN_ALL_WAYS = MOST_TRANSFERS * MOST_UNITS * DOORS;

    private static final char EXPECTED = 'e';
    private static final char IN_YARD = 'y';
    private static final char AT_DOOR = 'd';
    private static final char LEFT = 'l';

    private static final int ADD_LORRY = 0;
    private static final int ADD_TRANSFER = 1;
    private static final int PLAN_DOOR = 2;
    private static final int ARRIVE = 3;
    private static final int SEND_OFF = 4;
    private static final int ADD_GANG = 5;
    private static final int MOVE_GANG = 6;
    private static final int PASS = 7;

    private final Dock dock;
    private final ArrayList<Event> events;

    public Crossdockery() {
        dock = new Dock();
        events = new ArrayList<Event>();
    }

    // ---- lorries and transfers

    public int addLorry(boolean isBringing, int planned, int rate)
            throws IllegalArgumentException, IllegalStateException {
        if (!isWithin(planned, 0, LAST_MINUTE - 1) || !isWithin(rate, 1, MOST_RATE)) {
            throw new IllegalArgumentException("planned minute or rate out of range");
        }
        if (dock.lorries.size() >= MOST_LORRIES) {
            throw new IllegalStateException("no room for another lorry");
        }
        return happen(ADD_LORRY, isBringing ? 1 : 0, planned, rate);
    }

    public int addTransfer(int from, int to, int units)
            throws IndexOutOfBoundsException, IllegalArgumentException, IllegalStateException {
        Lorry bringing = dock.existingLorry(from);
        Lorry taking = dock.existingLorry(to);
        if (!bringing.isBringing || taking.isBringing || !isWithin(units, 1, MOST_UNITS)) {
            throw new IllegalArgumentException("wrong kind of lorry, or units out of range");
        }
        if (bringing.isDocked() || taking.isDocked() || dock.transfers.size() >= MOST_TRANSFERS) {
            throw new IllegalStateException("a lorry is past the yard, or no room for another transfer");
        }
        return happen(ADD_TRANSFER, from, to, units);
    }

    public int planDoor(int lorry, int door) throws IndexOutOfBoundsException, IllegalStateException {
        Lorry planned = dock.existingLorry(lorry);
        requireDoor(door);
        if (planned.isDocked()) {
            throw new IllegalStateException("the lorry is past the yard");
        }
        return happen(PLAN_DOOR, lorry, door, 0);
    }

    public int arrive(int lorry)
            throws IndexOutOfBoundsException, IllegalStateException, UnsupportedOperationException {
        Lorry arriving = dock.existingLorry(lorry);
        if (arriving.state != EXPECTED) {
            throw new IllegalStateException("the lorry is not expected");
        }
        if (arriving.door == NONE) {
            throw new UnsupportedOperationException("no door is planned");
        }
        return happen(ARRIVE, lorry, 0, 0);
    }

    public int sendOff(int lorry) throws IndexOutOfBoundsException, IllegalStateException {
        Lorry leaving = dock.existingLorry(lorry);
        if (!leaving.isPresent()) {
            throw new IllegalStateException("the lorry is not here");
        }
        return happen(SEND_OFF, lorry, 0, 0);
    }

    // ---- gangs and minutes

    public int addGang(int speed, int from, int to) throws IllegalArgumentException, IllegalStateException {
        if (!isWithin(speed, 1, MOST_SPEED) || !isWithin(from, 0, LAST_MINUTE - 1)
                || to <= from || to > LAST_MINUTE) {
            throw new IllegalArgumentException("speed or shift out of range");
        }
        if (dock.gangs.size() >= MOST_GANGS) {
            throw new IllegalStateException("no room for another gang");
        }
        return happen(ADD_GANG, speed, from, to);
    }

    public int moveGang(int gang, int door) throws IndexOutOfBoundsException {
        dock.existingGang(gang);
        if (door != NONE) {
            requireDoor(door);
        }
        return happen(MOVE_GANG, gang, door, 0);
    }

    public int pass(int minutes) throws IllegalArgumentException, IllegalStateException {
        if (!isWithin(minutes, 1, MOST_MINUTES_AT_ONCE)) {
            throw new IllegalArgumentException("minutes out of range");
        }
        if (dock.minute + minutes > LAST_MINUTE) {
            throw new IllegalStateException("the dock's time ends before");
        }
        return happen(PASS, minutes, 0, 0);
    }

    public int now() {
        return dock.minute;
    }

    public int power(int door) throws IndexOutOfBoundsException {
        requireDoor(door);
        return dock.powerAt(door);
    }

    // ---- where lorries and goods are

    public char stateOf(int lorry) throws IndexOutOfBoundsException {
        return dock.existingLorry(lorry).state;
    }

    public int lorryAt(int door) throws IndexOutOfBoundsException, NoSuchElementException {
        requireDoor(door);
        Lorry there = dock.standingAt(door);
        if (there == null) {
            throw new NoSuchElementException("no lorry is at the door");
        }
        return there.number;
    }

    public int inQueue(int door, int place) throws IndexOutOfBoundsException, NoSuchElementException {
        requireDoor(door);
        Lorry queued = dock.queuedFor(door, place);
        if (queued == null) {
            throw new NoSuchElementException("no such place in the queue");
        }
        return queued.number;
    }

    public int unloaded(int transfer) throws IndexOutOfBoundsException {
        return dock.existingTransfer(transfer).unloaded;
    }

    public int ready(int transfer) throws IndexOutOfBoundsException {
        return dock.existingTransfer(transfer).ready;
    }

    public int loaded(int transfer) throws IndexOutOfBoundsException {
        return dock.existingTransfer(transfer).loaded;
    }

    public int leftAt(int lorry) throws IndexOutOfBoundsException, NoSuchElementException {
        Lorry gone = dock.existingLorry(lorry);
        if (gone.state != LEFT) {
            throw new NoSuchElementException("the lorry has not left");
        }
        return gone.leftAt;
    }

    public int leftBehind() {
        return dock.unitsLeftBehind();
    }

    // ---- waiting and invoices

    public int waited(int lorry) throws IndexOutOfBoundsException {
        return dock.existingLorry(lorry).waited;
    }

    public int ownMinutes(int lorry) throws IndexOutOfBoundsException {
        return dock.existingLorry(lorry).own;
    }

    public int debtor(int lorry) throws IndexOutOfBoundsException, NoSuchElementException {
        Lorry waiting = dock.existingLorry(lorry);
        if (!waiting.hasJustWaited) {
            throw new NoSuchElementException("the lorry did not wait in the last minute");
        }
        return waiting.lastDebtor;
    }

    public int invoice(int debtor, int lorry) throws IndexOutOfBoundsException {
        requireDebtor(debtor);
        return dock.existingLorry(lorry).centsFrom(debtor);
    }

    public int invoiceAnew(int debtor, int lorry) throws IndexOutOfBoundsException {
        requireDebtor(debtor);
        dock.existingLorry(lorry);
        return dockAnew().existingLorry(lorry).centsFrom(debtor);
    }

    public long balance(int who) throws IndexOutOfBoundsException {
        requireDebtor(who);
        return dock.balanceOf(who);
    }

    public double meanWait() throws ArithmeticException {
        int count = dock.lorries.size();
        if (count == 0) {
            throw new ArithmeticException("there are no lorries");
        }
        return (double) dock.minutesWaited() / (double) count;
    }

    public float dockShare() throws ArithmeticException {
        int all = dock.minutesWaited();
        if (all == 0) {
            throw new ArithmeticException("no lorry has waited");
        }
        return (float) dock.minutesOfTheDock() / (float) all;
    }

    // ---- planning

    public int ways() {
        return dock.waysOfTransfers();
    }

    public int leastWays() {
        Plan plan = new Plan(dock);
        Plan.search(plan, 0, 0);
        return plan.least;
    }

    public int bestDoor(int lorry) throws IndexOutOfBoundsException, IllegalStateException {
        if (dock.existingLorry(lorry).state != EXPECTED) {
            throw new IllegalStateException("the lorry is not expected");
        }
        Plan plan = new Plan(dock);
        Plan.search(plan, 0, 0);
        return plan.bestDoorOf(lorry);
    }

    public boolean isSound() {
        Dock anew = dockAnew();
        long sum = dock.balanceOf(NONE);
        for (int i = 0; i < dock.lorries.size(); i++) {
            Lorry lorry = dock.lorries.get(i);
            if (lorry.waited != lorry.own + lorry.owedMinutes() || !isInvoicedAlike(lorry, anew)) {
                return false;
            }
            sum += dock.balanceOf(i);
        }
        return sum == 0;
    }

    private boolean isInvoicedAlike(Lorry lorry, Dock anew) {
        // Beyond the most events, what happens is not kept: the lorry may be missing anew.
        if (lorry.number < 0 || lorry.number >= anew.lorries.size()) {
            return false;
        }
        Lorry again = anew.lorries.get(lorry.number);
        for (int debtor = NONE; debtor < dock.lorries.size(); debtor++) {
            if (lorry.centsFrom(debtor) != again.centsFrom(debtor)) {
                return false;
            }
        }
        return true;
    }

    // Every change of the dock goes through an event, so that the same events make the same dock once more.
    private int happen(int kind, int first, int second, int third) {
        Event event = new Event(kind, first, second, third);
        if (events.size() < MOST_EVENTS) {
            events.add(event);
        }
        return dock.undergo(event);
    }

    private Dock dockAnew() {
        Dock anew = new Dock();
        for (int i = 0; i < events.size(); i++) {
            anew.undergo(events.get(i));
        }
        return anew;
    }

    private void requireDebtor(int number) {
        if (number != NONE) {
            dock.existingLorry(number);
        }
    }

    private static void requireDoor(int door) {
        if (!isWithin(door, 0, DOORS - 1)) {
            throw new IndexOutOfBoundsException("no such door");
        }
    }

    private static boolean isWithin(int number, int least, int most) {
        return number >= least && number <= most;
    }

    private static int difference(int door, int otherDoor) {
        if (door == NONE || otherDoor == NONE) {
            return 0;
        }
        return door > otherDoor ? door - otherDoor : otherDoor - door;
    }

    /** A call that changed the dock: its kind and its arguments. */
    private static final class Event {
        final int kind;
        final int first;
        final int second;
        final int third;

        Event(int kind, int first, int second, int third) {
            this.kind = kind;
            this.first = first;
            this.second = second;
            this.third = third;
        }
    }

    private static final class Lorry {
        final int number;
        final boolean isBringing;
        final int planned;
        final int rate;
        int door = NONE;
        char state = EXPECTED;
        int arrivedAt;
        int leftAt;
        int waited;
        int own;
        boolean isHandled;
        boolean hasJustWaited;
        int lastDebtor = OWN;
        int debtorAtDoor = NONE;
        // The dock's minutes come first, those of the lorry n at n + 1.
        final int[] minutesOf = new int[MOST_LORRIES + 1];

        Lorry(int number, boolean isBringing, int planned, int rate) {
            this.number = number;
            this.isBringing = isBringing;
            this.planned = planned;
            this.rate = rate;
        }

        boolean isPresent() {
            return state == IN_YARD || state == AT_DOOR;
        }

        boolean isDocked() {
            return state == AT_DOOR || state == LEFT;
        }

        boolean isQueuedFor(int someDoor) {
            return state == IN_YARD && door == someDoor;
        }

        boolean isAheadOf(Lorry other) {
            return arrivedAt < other.arrivedAt || arrivedAt == other.arrivedAt && number < other.number;
        }

        int planFor(int newDoor) {
            int before = door;
            door = newDoor;
            return before;
        }

        void comeIn(int minute) {
            state = IN_YARD;
            arrivedAt = minute;
        }

        void goAway(int minute) {
            state = LEFT;
            leftAt = minute;
        }

        boolean waitsOnItsOwn(int minute) {
            return minute < planned || waited < (isBringing ? 0 : FREE_MINUTES_WHEN_TAKING);
        }

        void waitOwedBy(int debtor) {
            waited++;
            lastDebtor = debtor;
            int place = debtor + 1;
            if (debtor == OWN) {
                own++;
            } else if (place >= 0 && place < minutesOf.length) {
                minutesOf[place]++;
            }
        }

        int minutesFrom(int debtor) {
            int place = debtor + 1;
            return place >= 0 && place < minutesOf.length ? minutesOf[place] : 0;
        }

        int centsFrom(int debtor) {
            return minutesFrom(debtor) * rate;
        }

        int owedMinutes() {
            int sum = 0;
            for (int minutes : minutesOf) {
                sum += minutes;
            }
            return sum;
        }
    }

    private static final class Transfer {
        final Lorry from;
        final Lorry to;
        final int units;
        int unloaded;
        int ready;
        int loaded;
        // The units that get ready at the end of this minute, of the next one, and so on.
        final int[] coming = new int[DOORS];

        Transfer(Lorry from, Lorry to, int units) {
            this.from = from;
            this.to = to;
            this.units = units;
        }

        boolean isOf(Lorry lorry) {
            return from == lorry || to == lorry;
        }

        int openFor(Lorry lorry) {
            return lorry.isBringing ? units - unloaded : units - loaded;
        }

        int way() {
            return units * difference(from.door, to.door);
        }

        int unload(int most) {
            int delay = difference(from.door, to.door);
            if (delay < 0 || delay >= coming.length) {
                return 0;
            }
            int moved = Math.min(most, units - unloaded);
            unloaded += moved;
            coming[delay] += moved;
            return moved;
        }

        int load(int most) {
            int moved = Math.min(most, ready);
            ready -= moved;
            loaded += moved;
            return moved;
        }

        void endMinute() {
            int fromBehind = 0;
            for (int i = coming.length - 1; i >= 0; i--) {
                int here = coming[i];
                coming[i] = fromBehind;
                fromBehind = here;
            }
            ready += fromBehind;
        }
    }

    private static final class Gang {
        final int speed;
        final int from;
        final int to;
        int door = NONE;

        Gang(int speed, int from, int to) {
            this.speed = speed;
            this.from = from;
            this.to = to;
        }

        boolean worksAt(int someDoor, int minute) {
            return door == someDoor && minute >= from && minute < to;
        }

        int moveTo(int newDoor) {
            int before = door;
            door = newDoor;
            return before;
        }
    }

    private static final class Dock {
        final ArrayList<Lorry> lorries = new ArrayList<Lorry>();
        final ArrayList<Transfer> transfers = new ArrayList<Transfer>();
        final ArrayList<Gang> gangs = new ArrayList<Gang>();
        final Lorry[] atDoor = new Lorry[DOORS];
        int minute;

        Lorry existingLorry(int number) {
            if (number < 0 || number >= lorries.size()) {
                throw new IndexOutOfBoundsException("no such lorry");
            }
            return lorries.get(number);
        }

        Transfer existingTransfer(int number) {
            if (number < 0 || number >= transfers.size()) {
                throw new IndexOutOfBoundsException("no such transfer");
            }
            return transfers.get(number);
        }

        Gang existingGang(int number) {
            if (number < 0 || number >= gangs.size()) {
                throw new IndexOutOfBoundsException("no such gang");
            }
            return gangs.get(number);
        }

        // ---- events

        int undergo(Event event) {
            switch (event.kind) {
                case ADD_LORRY:
                    return takeOnLorry(event);
                case ADD_TRANSFER:
                    return takeOnTransfer(event);
                case PLAN_DOOR:
                    return existingLorry(event.first).planFor(event.second);
                case ARRIVE:
                    existingLorry(event.first).comeIn(minute);
                    return lorriesInYard();
                case SEND_OFF:
                    return sendAway(existingLorry(event.first));
                case ADD_GANG:
                    return takeOnGang(event);
                case MOVE_GANG:
                    return existingGang(event.first).moveTo(event.second);
                case PASS:
                    return passMinutes(event.first);
                default:
                    return NONE;
            }
        }

        int takeOnLorry(Event event) {
            int number = lorries.size();
            lorries.add(new Lorry(number, event.first == 1, event.second, event.third));
            return number;
        }

        int takeOnTransfer(Event event) {
            int number = transfers.size();
            transfers.add(new Transfer(existingLorry(event.first), existingLorry(event.second), event.third));
            return number;
        }

        int takeOnGang(Event event) {
            int number = gangs.size();
            gangs.add(new Gang(event.first, event.second, event.third));
            return number;
        }

        int sendAway(Lorry lorry) {
            lorry.goAway(minute);
            freeDoors();
            return openUnits(lorry);
        }

        // ---- minutes

        int passMinutes(int minutes) {
            int leaving = 0;
            for (int i = 0; i < minutes; i++) {
                fillDoors();
                handleUnits();
                leaving += letLeave();
                lookAtDoors();
                letWait();
                freeDoors();
                endMinute();
            }
            return leaving;
        }

        void fillDoors() {
            for (int door = 0; door < atDoor.length; door++) {
                if (atDoor[door] == null) {
                    Lorry first = queuedFor(door, 0);
                    if (first != null) {
                        first.state = AT_DOOR;
                        atDoor[door] = first;
                    }
                }
            }
        }

        // Only lorries at doors are ever handled, and they are looked at anew in each minute.
        void handleUnits() {
            for (int door = 0; door < atDoor.length; door++) {
                Lorry lorry = atDoor[door];
                if (lorry != null) {
                    handleUnitsOf(lorry, powerAt(door));
                }
            }
        }

        void handleUnitsOf(Lorry lorry, int most) {
            int left = most;
            for (int i = 0; i < transfers.size() && left > 0; i++) {
                Transfer transfer = transfers.get(i);
                if (transfer.isOf(lorry)) {
                    left -= lorry.isBringing ? transfer.unload(left) : transfer.load(left);
                }
            }
            lorry.isHandled = left < most;
        }

        // A lorry that leaves stays at its door up to the minute's end: those in the yard still look at it.
        int letLeave() {
            int leaving = 0;
            for (int door = 0; door < atDoor.length; door++) {
                Lorry lorry = atDoor[door];
                if (lorry != null && openUnits(lorry) == 0) {
                    lorry.goAway(minute + 1);
                    leaving++;
                }
            }
            return leaving;
        }

        void freeDoors() {
            for (int door = 0; door < atDoor.length; door++) {
                Lorry lorry = atDoor[door];
                if (lorry != null && lorry.state == LEFT) {
                    atDoor[door] = null;
                }
            }
        }

        void endMinute() {
            for (int i = 0; i < transfers.size(); i++) {
                transfers.get(i).endMinute();
            }
            minute++;
        }

        // ---- who owes

        void lookAtDoors() {
            for (int door = 0; door < atDoor.length; door++) {
                Lorry lorry = atDoor[door];
                if (lorry != null) {
                    lorry.debtorAtDoor = debtorAtDoor(lorry, powerAt(door));
                }
            }
        }

        int debtorAtDoor(Lorry lorry, int power) {
            if (power == 0 || lorry.isBringing) {
                return NONE;
            }
            Lorry missed = firstMissedBy(lorry);
            if (missed == null || missed.state != EXPECTED) {
                return NONE;
            }
            return missed.planned <= minute ? missed.number : OWN;
        }

        Lorry firstMissedBy(Lorry taking) {
            for (int i = 0; i < transfers.size(); i++) {
                Transfer transfer = transfers.get(i);
                if (transfer.to == taking && transfer.unloaded < transfer.units) {
                    return transfer.from;
                }
            }
            return null;
        }

        void letWait() {
            for (int i = 0; i < lorries.size(); i++) {
                Lorry lorry = lorries.get(i);
                lorry.hasJustWaited = lorry.isPresent() && !lorry.isHandled;
                if (lorry.hasJustWaited) {
                    lorry.waitOwedBy(debtorOf(lorry));
                }
            }
        }

        int debtorOf(Lorry lorry) {
            if (lorry.waitsOnItsOwn(minute)) {
                return OWN;
            }
            if (lorry.state == AT_DOOR) {
                return lorry.debtorAtDoor;
            }
            Lorry ahead = standingAt(lorry.door);
            return ahead == null ? NONE : debtorBehind(ahead);
        }

        int debtorBehind(Lorry ahead) {
            if (ahead.isHandled) {
                return ahead.arrivedAt > ahead.planned ? ahead.number : NONE;
            }
            return ahead.debtorAtDoor == OWN ? ahead.number : ahead.debtorAtDoor;
        }

        // ---- questions

        int powerAt(int door) {
            int sum = 0;
            for (int i = 0; i < gangs.size(); i++) {
                Gang gang = gangs.get(i);
                if (gang.worksAt(door, minute)) {
                    sum += gang.speed;
                }
            }
            return sum;
        }

        Lorry standingAt(int door) {
            return door >= 0 && door < atDoor.length ? atDoor[door] : null;
        }

        Lorry queuedFor(int door, int place) {
            for (int i = 0; i < lorries.size(); i++) {
                Lorry lorry = lorries.get(i);
                if (lorry.isQueuedFor(door) && lorriesAheadOf(lorry) == place) {
                    return lorry;
                }
            }
            return null;
        }

        int lorriesAheadOf(Lorry queued) {
            int count = 0;
            for (int i = 0; i < lorries.size(); i++) {
                Lorry other = lorries.get(i);
                if (other.isQueuedFor(queued.door) && other.isAheadOf(queued)) {
                    count++;
                }
            }
            return count;
        }

        int lorriesInYard() {
            int count = 0;
            for (int i = 0; i < lorries.size(); i++) {
                if (lorries.get(i).state == IN_YARD) {
                    count++;
                }
            }
            return count;
        }

        int openUnits(Lorry lorry) {
            int sum = 0;
            for (int i = 0; i < transfers.size(); i++) {
                Transfer transfer = transfers.get(i);
                if (transfer.isOf(lorry)) {
                    sum += transfer.openFor(lorry);
                }
            }
            return sum;
        }

        int unitsLeftBehind() {
            int sum = 0;
            for (int i = 0; i < transfers.size(); i++) {
                Transfer transfer = transfers.get(i);
                if (transfer.to.state == LEFT) {
                    sum += transfer.units - transfer.loaded;
                }
            }
            return sum;
        }

        int waysOfTransfers() {
            int sum = 0;
            for (int i = 0; i < transfers.size(); i++) {
                sum += transfers.get(i).way();
            }
            return sum;
        }

        int minutesWaited() {
            int sum = 0;
            for (int i = 0; i < lorries.size(); i++) {
                sum += lorries.get(i).waited;
            }
            return sum;
        }

        int minutesOfTheDock() {
            int sum = 0;
            for (int i = 0; i < lorries.size(); i++) {
                sum += lorries.get(i).minutesFrom(NONE);
            }
            return sum;
        }

        long balanceOf(int who) {
            long sum = 0;
            for (int i = 0; i < lorries.size(); i++) {
                Lorry lorry = lorries.get(i);
                sum -= lorry.centsFrom(who);
                if (i == who) {
                    sum += owedCents(lorry);
                }
            }
            return sum;
        }

        long owedCents(Lorry lorry) {
            long sum = 0;
            for (int debtor = NONE; debtor < lorries.size(); debtor++) {
                sum += lorry.centsFrom(debtor);
            }
            return sum;
        }
    }

    /** The search for the best plan: the first one in the order of the doors that has the least ways. */
    private static final class Plan {
        final int count;
        final boolean[] isOpen = new boolean[MOST_LORRIES];
        final int[] doors = new int[MOST_LORRIES];
        final int[] best = new int[MOST_LORRIES];
        final int[] unitsBetween = new int[MOST_LORRIES * MOST_LORRIES];
        int least = MORE_THAN_ALL_WAYS;

        Plan(Dock dock) {
            count = Math.min(dock.lorries.size(), MOST_LORRIES);
            for (int i = 0; i < count; i++) {
                Lorry lorry = dock.lorries.get(i);
                isOpen[i] = lorry.state == EXPECTED;
                doors[i] = lorry.door;
            }
            for (int i = 0; i < dock.transfers.size(); i++) {
                Transfer transfer = dock.transfers.get(i);
                int low = Math.min(transfer.from.number, transfer.to.number);
                int place = Math.max(transfer.from.number, transfer.to.number) * MOST_LORRIES + low;
                if (place >= 0 && place < unitsBetween.length) {
                    unitsBetween[place] += transfer.units;
                }
            }
        }

        /** Tries the doors of this lorry and of all after it; the lorries before it have ways among them. */
        private static void search(Plan plan, int lorry, int ways) {
            // A plan found later must be better than the first one, not as good.
            if (ways >= plan.least) {
                return;
            }
            if (lorry < 0 || lorry >= plan.count || lorry >= plan.doors.length) {
                plan.keep(ways);
            } else if (!plan.isOpenAt(lorry)) {
                search(plan, lorry + 1, ways + plan.waysToEarlier(lorry));
            } else {
                for (int door = 0; door < DOORS; door++) {
                    plan.doors[lorry] = door;
                    search(plan, lorry + 1, ways + plan.waysToEarlier(lorry));
                }
            }
        }

        boolean isOpenAt(int lorry) {
            return lorry >= 0 && lorry < isOpen.length && isOpen[lorry];
        }

        int waysToEarlier(int lorry) {
            if (lorry < 0 || lorry >= doors.length) {
                return 0;
            }
            int sum = 0;
            for (int other = 0; other < lorry; other++) {
                int place = lorry * MOST_LORRIES + other;
                if (place < unitsBetween.length) {
                    sum += unitsBetween[place] * difference(doors[lorry], doors[other]);
                }
            }
            return sum;
        }

        void keep(int ways) {
            least = ways;
            for (int i = 0; i < best.length && i < doors.length; i++) {
                best[i] = doors[i];
            }
        }

        int bestDoorOf(int lorry) {
            return lorry >= 0 && lorry < best.length ? best[lorry] : NONE;
        }
    }
}
