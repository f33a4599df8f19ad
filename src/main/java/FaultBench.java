/**
 * A test bench for small protocols: items are sent over a line under a schedule of faults, and a
 * run can break promises. Every row is made in a constructor and used again, so no call makes an
 * object.
 */
public final class FaultBench {
    public static final int NONE = -1;

    private static final int PLAIN = 0;
    private static final int ALTERNATE = 1;
    private static final int WINDOW = 2;

    private static final int PROTOCOL = 0;
    private static final int ITEMS = 1;
    private static final int TICKS = 2;
    private static final int LATENCY = 3;
    private static final int TIMER = 4;
    private static final int WINDOW_SIZE = 5;
    private static final int MODULUS = 6;
    private static final int BUDGET = 7;
    private static final int SETTINGS = 8;

    private static final int[] FIRST_VALUE = {0, 1, 10, 1, 8, 2, 4, 50};
    private static final int[] LEAST_VALUE = {0, 1, 10, 1, 1, 1, 2, 1};
    private static final int[] MOST_VALUE = {2, 8, 200, 5, 20, 4, 8, 200};

    private static final int DROP = 0;
    private static final int TWICE = 1;
    private static final int LATE = 2;

    private static final int DATA = 0;
    private static final int ANSWER = 1;

    private static final int PROMISES = 4;
    private static final int MOST_FAULTS = 10;
    private static final int MOST_AMOUNT = 20;
    private static final int MOST_SENT = 120;
    private static final int MOST_BYTES = 500;
    private static final int APPENDED_BYTES = 20;
    private static final int MOST_CHANGES = 10;
    private static final int SLOTS = 2;

    // The latest tick is 199; latency 5, amount 20 and the second arrival can lie behind it.
    private static final int ARRIVAL_TICKS = 226;

    private static final int SENDER_NUMBERS = 9;
    private static final int MOST_RECEIVED = 15;

    private static final int MOST_LETTERS = 9;
    private static final int MOST_DIGITS = 3;

    private static final int END = 0;
    private static final int WORD = 1;
    private static final int NUMBER = 2;
    private static final int SEMICOLON = 3;
    private static final int INVALID = 4;

    private static final int NOT_ALLOWED = 1;
    private static final int ONCE_MORE = 2;
    private static final int OUT_OF_RANGE = 3;
    private static final int TOO_MANY_FAULTS = 4;

    private final Bench present;
    private final Bench trial;
    private final Run run;
    private final Reader reader;
    private final Bench[] history;
    private int changes;
    private final Bench[] snapshots;
    private final boolean[] saved;

    public FaultBench() {
        present = new Bench();
        present.begin();
        trial = new Bench();
        run = new Run();
        reader = new Reader();
        history = new Bench[MOST_CHANGES];
        for (int k = 0; k < MOST_CHANGES; k++) {
            history[k] = new Bench();
        }
        changes = 0;
        snapshots = new Bench[SLOTS];
        for (int k = 0; k < SLOTS; k++) {
            snapshots[k] = new Bench();
        }
        saved = new boolean[SLOTS];
    }

    // ---- text

    public int append(int a, int b, int c, int d, int e) {
        if (reader.heldBytes() + APPENDED_BYTES > MOST_BYTES) {
            return NONE;
        }
        reader.hold(a);
        reader.hold(b);
        reader.hold(c);
        reader.hold(d);
        reader.hold(e);
        return reader.heldBytes();
    }

    public int parse(int length) throws IllegalArgumentException {
        if (length < 0 || length > reader.heldBytes()) {
            throw new IllegalArgumentException("length is out of range");
        }
        int code = reader.read(length);
        if (code == 0) {
            present.takeAll(reader.described());
            changes = 0;
            for (int k = 0; k < SLOTS; k++) {
                saved[k] = false;
            }
        }
        return code;
    }

    public int errorPosition() {
        return reader.errorStart();
    }

    public int size(int what) throws IllegalArgumentException {
        if (what >= 0 && what < SETTINGS) {
            return present.setting(what);
        }
        switch (what) {
            case 8:
                return present.faultCount();
            case 9:
                return changes;
            case 10:
                return present.recordedStates().howMany();
            default:
                throw new IllegalArgumentException("what is not 0 to 10");
        }
    }

    public int fault(int fault, int part) throws IndexOutOfBoundsException, IllegalArgumentException {
        checkFault(fault);
        if (part < 0 || part > 2) {
            throw new IllegalArgumentException("part is not 0 to 2");
        }
        return present.faultPart(fault, part);
    }

    // ---- the run with the present schedule

    public int result(int what) throws IllegalArgumentException {
        if (what < 0 || what > 7) {
            throw new IllegalArgumentException("what is not 0 to 7");
        }
        int broken = run.play(present);
        switch (what) {
            case 0:
                return run.tickCount();
            case 1:
                return run.line().sentCount();
            case 2:
                return run.deliveries().howMany();
            case 3:
                return run.deliveries().completeTick();
            case 4:
                return run.line().repeatedData();
            case 5:
                return run.line().answers();
            case 6:
                return run.states().howMany();
            default:
                return broken;
        }
    }

    public int delivered(int k) {
        run.play(present);
        return run.deliveries().itemAt(k);
    }

    public int sent(int k, int part) throws IllegalArgumentException {
        if (part < 0 || part > 4) {
            throw new IllegalArgumentException("part is not 0 to 4");
        }
        run.play(present);
        return run.line().sentPart(k, part);
    }

    public boolean breaks(int promise) throws IllegalArgumentException {
        checkPromise(promise);
        return isBroken(present, promise);
    }

    public boolean reaches(int sender, int received) {
        run.play(present);
        return run.states().holds(sender, received);
    }

    // ---- what would be; nothing changes

    public boolean matters(int fault, int promise) throws IndexOutOfBoundsException, IllegalArgumentException {
        checkFault(fault);
        checkPromise(promise);
        if (!isBroken(present, promise)) {
            return false;
        }
        trial.takeAll(present);
        trial.delete(fault);
        return !isBroken(trial, promise);
    }

    public int smallest(int promise) throws IllegalArgumentException {
        checkPromise(promise);
        int part = findCore(promise);
        return part == NONE ? NONE : Integer.bitCount(part);
    }

    public int core(int promise) throws IllegalArgumentException {
        checkPromise(promise);
        return findCore(promise);
    }

    public int leastAmount(int fault, int promise) throws IndexOutOfBoundsException, IllegalArgumentException {
        checkFault(fault);
        checkPromise(promise);
        return findLeastAmount(fault, promise);
    }

    public int attack(int promise, int part) throws IllegalArgumentException {
        checkPromise(promise);
        if (part < 0 || part > 2) {
            throw new IllegalArgumentException("part is not 0 to 2");
        }
        if (breaksWithoutFaults(promise)) {
            return NONE;
        }
        // A fault of a transmission that the run without faults never sends changes nothing.
        return findAttack(promise, run.line().sentCount()) ? trial.faultPart(0, part) : NONE;
    }

    public int weakPoints(int promise) throws IllegalArgumentException {
        checkPromise(promise);
        if (breaksWithoutFaults(promise)) {
            return 0;
        }
        // A fault of a transmission that the run without faults never sends changes nothing.
        int sentCount = run.line().sentCount();
        int found = 0;
        for (int number = 0; number < sentCount; number++) {
            trial.takeOnlyFault(DROP, number, 0);
            if (isBroken(trial, promise)) {
                found++;
            }
        }
        return found;
    }

    public int timerFor(int promise) throws IllegalArgumentException {
        checkPromise(promise);
        trial.takeAll(present);
        for (int timer = LEAST_VALUE[TIMER]; timer <= MOST_VALUE[TIMER]; timer++) {
            trial.changeSetting(TIMER, timer);
            if (!isBroken(trial, promise)) {
                return timer;
            }
        }
        return NONE;
    }

    public boolean isRecorded(int sender, int received) {
        return present.recordedStates().holds(sender, received);
    }

    // ---- changes

    public int addFault(int kind, int number, int amount) throws IllegalArgumentException, IllegalStateException {
        if (!isFault(kind, number, amount)) {
            throw new IllegalArgumentException("kind, number or amount is out of range");
        }
        if (present.faultCount() >= MOST_FAULTS || present.findFault(kind, number) != NONE) {
            throw new IllegalStateException("there is such a fault, or there are 10 faults");
        }
        remember();
        return present.insert(kind, number, amount);
    }

    public int removeFault(int fault) throws IndexOutOfBoundsException {
        checkFault(fault);
        remember();
        present.delete(fault);
        return present.faultCount();
    }

    public int clearFaults() {
        remember();
        int removed = present.faultCount();
        present.deleteAll();
        return removed;
    }

    public int set(int what, int value) throws IllegalArgumentException {
        if (what < 0 || what >= SETTINGS) {
            throw new IllegalArgumentException("what is not 0 to 7");
        }
        if (value < LEAST_VALUE[what] || value > MOST_VALUE[what]) {
            throw new IllegalArgumentException("value is out of range");
        }
        remember();
        int previous = present.setting(what);
        present.changeSetting(what, value);
        return previous;
    }

    public int shrink(int promise) throws IllegalArgumentException, IllegalStateException {
        checkPromise(promise);
        int part = findCore(promise);
        if (part == NONE) {
            throw new IllegalStateException("no part of the schedule breaks the promise");
        }
        remember();
        present.keepPart(part);
        int remaining = present.faultCount();
        for (int k = 0; k < remaining; k++) {
            int amount = findLeastAmount(k, promise);
            if (amount != NONE) {
                present.changeAmount(k, amount);
            }
        }
        return remaining;
    }

    public int record() {
        run.play(present);
        remember();
        return present.recordedStates().addAll(run.states());
    }

    // ---- undo and snapshots

    public int undo() {
        if (changes <= 0 || changes > MOST_CHANGES) {
            return NONE;
        }
        changes--;
        Bench earlier = history[changes];
        if (earlier != null) {
            present.takeAll(earlier);
        }
        return changes;
    }

    public boolean saveSnapshot(int slot) throws IndexOutOfBoundsException {
        checkSlot(slot);
        Bench snapshot = snapshots[slot];
        if (snapshot != null) {
            snapshot.takeAll(present);
        }
        boolean earlier = saved[slot];
        saved[slot] = true;
        return earlier;
    }

    public int restoreSnapshot(int slot) throws IndexOutOfBoundsException, IllegalStateException {
        checkSlot(slot);
        if (!saved[slot]) {
            throw new IllegalStateException("the slot is empty");
        }
        Bench snapshot = snapshots[slot];
        if (snapshot != null) {
            present.takeAll(snapshot);
        }
        changes = 0;
        return present.faultCount();
    }

    // ---- checks

    private void checkFault(int fault) {
        if (fault < 0 || fault >= present.faultCount()) {
            throw new IndexOutOfBoundsException("there is no such fault");
        }
    }

    private static void checkPromise(int promise) {
        if (promise < 0 || promise >= PROMISES) {
            throw new IllegalArgumentException("there is no such promise");
        }
    }

    private static void checkSlot(int slot) {
        if (slot < 0 || slot >= SLOTS) {
            throw new IndexOutOfBoundsException("there is no such slot");
        }
    }

    private static boolean isFault(int kind, int number, int amount) {
        if (number < 0 || number >= MOST_SENT) {
            return false;
        }
        if (kind == LATE) {
            return amount >= 1 && amount <= MOST_AMOUNT;
        }
        return (kind == DROP || kind == TWICE) && amount == 0;
    }

    // ---- what the face's methods share

    private boolean isBroken(Bench bench, int promise) {
        return (run.play(bench) >> promise & 1) != 0;
    }

    /** Leaves the present bench without its schedule in trial, and its run in run. */
    private boolean breaksWithoutFaults(int promise) {
        trial.takePart(present, 0);
        return isBroken(trial, promise);
    }

    /** Returns the core as bits, or NONE. */
    private int findCore(int promise) {
        int count = present.faultCount();
        int parts = 1 << count;
        for (int faults = 0; faults <= count; faults++) {
            // Mirrored, the part that has the first differing fault is the greater number.
            for (int mirrored = parts - 1; mirrored >= 0; mirrored--) {
                if (Integer.bitCount(mirrored) != faults) {
                    continue;
                }
                int part = mirror(mirrored, count);
                trial.takePart(present, part);
                if (isBroken(trial, promise)) {
                    return part;
                }
            }
        }
        return NONE;
    }

    private static int mirror(int bits, int count) {
        int mirrored = 0;
        for (int k = 0; k < count; k++) {
            mirrored = mirrored << 1 | bits >> k & 1;
        }
        return mirrored;
    }

    private int findLeastAmount(int fault, int promise) {
        if (present.faultPart(fault, 0) != LATE) {
            return NONE;
        }
        trial.takeAll(present);
        int most = present.faultPart(fault, 2);
        for (int amount = 1; amount <= most; amount++) {
            trial.changeAmount(fault, amount);
            if (isBroken(trial, promise)) {
                return amount;
            }
        }
        return NONE;
    }

    /** Leaves the fault that was found in trial, as its only one; trial has no faults before. */
    private boolean findAttack(int promise, int sentCount) {
        for (int number = 0; number < sentCount; number++) {
            for (int kind = DROP; kind <= LATE; kind++) {
                int least = kind == LATE ? 1 : 0;
                int most = kind == LATE ? MOST_AMOUNT : 0;
                for (int amount = least; amount <= most; amount++) {
                    trial.takeOnlyFault(kind, number, amount);
                    if (isBroken(trial, promise)) {
                        return true;
                    }
                }
            }
        }
        return false;
    }

    /** Keeps the present bench for undo; the oldest of ten gives its place. */
    private void remember() {
        if (changes >= MOST_CHANGES) {
            Bench oldest = history[0];
            for (int k = 1; k < MOST_CHANGES; k++) {
                history[k - 1] = history[k];
            }
            history[MOST_CHANGES - 1] = oldest;
            changes = MOST_CHANGES - 1;
        }
        if (changes < 0) {
            return;
        }
        Bench place = history[changes];
        if (place != null) {
            place.takeAll(present);
            changes++;
        }
    }

    /** A set of states: a row of bits, one for each number of deliveries, for each sender's number. */
    private static final class States {
        private final int[] rows;

        States() {
            rows = new int[SENDER_NUMBERS];
        }

        void removeAll() {
            for (int k = 0; k < SENDER_NUMBERS; k++) {
                rows[k] = 0;
            }
        }

        void takeAll(States from) {
            for (int k = 0; k < SENDER_NUMBERS; k++) {
                rows[k] = from.rows[k];
            }
        }

        void put(int sender, int received) {
            if (isState(sender, received)) {
                rows[sender] |= 1 << received;
            }
        }

        boolean holds(int sender, int received) {
            return isState(sender, received) && (rows[sender] >> received & 1) != 0;
        }

        /** Returns how many of the others were new. */
        int addAll(States others) {
            int before = howMany();
            for (int k = 0; k < SENDER_NUMBERS; k++) {
                rows[k] |= others.rows[k];
            }
            return howMany() - before;
        }

        int howMany() {
            int count = 0;
            for (int k = 0; k < SENDER_NUMBERS; k++) {
                count += Integer.bitCount(rows[k]);
            }
            return count;
        }

        private static boolean isState(int sender, int received) {
            return sender >= 0 && sender < SENDER_NUMBERS && received >= 0 && received <= MOST_RECEIVED;
        }
    }

    /** What changes can change: the settings, the schedule and the recorded states. */
    private static final class Bench {
        private final int[] settings;
        private final int[] kinds;
        private final int[] numbers;
        private final int[] amounts;
        private int count;
        private final States recorded;

        Bench() {
            settings = new int[SETTINGS];
            kinds = new int[MOST_FAULTS];
            numbers = new int[MOST_FAULTS];
            amounts = new int[MOST_FAULTS];
            count = 0;
            recorded = new States();
        }

        /** Becomes a bench with the values that hold where a text says nothing else. */
        void begin() {
            for (int k = 0; k < SETTINGS; k++) {
                settings[k] = FIRST_VALUE[k];
            }
            count = 0;
            recorded.removeAll();
        }

        void takeAll(Bench from) {
            takePart(from, -1);
            recorded.takeAll(from.recorded);
        }

        /** Takes the settings, and of the schedule the faults whose bits are set. */
        void takePart(Bench from, int part) {
            for (int k = 0; k < SETTINGS; k++) {
                settings[k] = from.settings[k];
            }
            int taken = 0;
            for (int k = 0; k < MOST_FAULTS && k < from.count; k++) {
                if ((part >> k & 1) != 0 && taken < MOST_FAULTS) {
                    kinds[taken] = from.kinds[k];
                    numbers[taken] = from.numbers[k];
                    amounts[taken] = from.amounts[k];
                    taken++;
                }
            }
            count = taken;
        }

        /** The recorded states stay. Each fault moves to a place that was read before. */
        void keepPart(int part) {
            takePart(this, part);
        }

        void takeOnlyFault(int kind, int number, int amount) {
            count = 0;
            insert(kind, number, amount);
        }

        int setting(int what) {
            return what >= 0 && what < SETTINGS ? settings[what] : 0;
        }

        void changeSetting(int what, int value) {
            if (what >= 0 && what < SETTINGS) {
                settings[what] = value;
            }
        }

        States recordedStates() {
            return recorded;
        }

        int faultCount() {
            return count;
        }

        int faultPart(int fault, int part) {
            if (fault < 0 || fault >= count || fault >= MOST_FAULTS) {
                return NONE;
            }
            switch (part) {
                case 0:
                    return kinds[fault];
                case 1:
                    return numbers[fault];
                default:
                    return amounts[fault];
            }
        }

        int findFault(int kind, int number) {
            for (int k = 0; k < MOST_FAULTS && k < count; k++) {
                if (numbers[k] == number && kinds[k] == kind) {
                    return k;
                }
            }
            return NONE;
        }

        /** Returns the number that the fault has then, or NONE if there is no room for it. */
        int insert(int kind, int number, int amount) {
            if (count < 0 || count >= MOST_FAULTS) {
                return NONE;
            }
            int place = 0;
            for (int k = 0; k < count; k++) {
                if (numbers[k] < number || numbers[k] == number && kinds[k] < kind) {
                    place = k + 1;
                }
            }
            for (int k = count; k > place; k--) {
                kinds[k] = kinds[k - 1];
                numbers[k] = numbers[k - 1];
                amounts[k] = amounts[k - 1];
            }
            kinds[place] = kind;
            numbers[place] = number;
            amounts[place] = amount;
            count++;
            return place;
        }

        void delete(int fault) {
            if (fault < 0 || fault >= count) {
                return;
            }
            for (int k = fault + 1; k < MOST_FAULTS && k < count; k++) {
                kinds[k - 1] = kinds[k];
                numbers[k - 1] = numbers[k];
                amounts[k - 1] = amounts[k];
            }
            count--;
        }

        void deleteAll() {
            count = 0;
        }

        void changeAmount(int fault, int amount) {
            if (fault >= 0 && fault < count && fault < MOST_FAULTS) {
                amounts[fault] = amount;
            }
        }
    }

    /** What the receiver delivered in a run. */
    private static final class Deliveries {
        private final int[] items;
        private int count;
        private int wanted;
        private int seen;
        private int greatest;
        private boolean doubled;
        private boolean disordered;
        private int complete;

        Deliveries() {
            // Each transmission arrives twice at most.
            items = new int[2 * MOST_SENT];
        }

        void begin(int itemCount) {
            count = 0;
            wanted = (1 << itemCount) - 1;
            seen = 0;
            greatest = NONE;
            doubled = false;
            disordered = false;
            complete = NONE;
        }

        void put(int item, int tick) {
            if (count < 0 || count >= items.length) {
                return;
            }
            items[count] = item;
            count++;
            if ((seen >> item & 1) != 0) {
                doubled = true;
            }
            if (item < greatest) {
                disordered = true;
            } else {
                greatest = item;
            }
            seen |= 1 << item;
            if (complete == NONE && seen == wanted) {
                complete = tick;
            }
        }

        int itemAt(int k) {
            return k >= 0 && k < count && k < items.length ? items[k] : NONE;
        }

        int howMany() {
            return count;
        }

        int completeTick() {
            return complete;
        }

        /** Returns the promises that are broken as bits. */
        int broken(int budget) {
            int bits = complete == NONE ? 1 : 0;
            bits |= doubled ? 2 : 0;
            bits |= disordered ? 4 : 0;
            bits |= complete == NONE || complete > budget ? 8 : 0;
            return bits;
        }
    }

    /**
     * The line: the transmissions of a run, and a queue of arrivals for each tick. An arrival is a
     * transmission times 2, plus 1 if it is the second one. A packet joins its queues when it is
     * sent, so each queue ascends by transmissions by itself.
     */
    private static final class Line {
        private final int[] sendTicks;
        private final int[] directions;
        private final int[] contents;
        private final int[] firstTicks;
        private final int[] secondTicks;
        private int count;
        private final int[] heads;
        private final int[] tails;
        private final int[] lengths;
        private final int[] followers;
        private int underWay;

        Line() {
            sendTicks = new int[MOST_SENT];
            directions = new int[MOST_SENT];
            contents = new int[MOST_SENT];
            firstTicks = new int[MOST_SENT];
            secondTicks = new int[MOST_SENT];
            heads = new int[ARRIVAL_TICKS];
            tails = new int[ARRIVAL_TICKS];
            lengths = new int[ARRIVAL_TICKS];
            followers = new int[2 * MOST_SENT];
        }

        void begin() {
            count = 0;
            underWay = 0;
            for (int k = 0; k < ARRIVAL_TICKS; k++) {
                lengths[k] = 0;
            }
        }

        /** Sends a packet under the faults of a bench; a packet beyond the last number is lost. */
        void send(Bench bench, int tick, int direction, int content) {
            int number = count;
            if (number < 0 || number >= MOST_SENT) {
                return;
            }
            count++;
            sendTicks[number] = tick;
            directions[number] = direction;
            contents[number] = content;
            firstTicks[number] = NONE;
            secondTicks[number] = NONE;
            if (bench.findFault(DROP, number) != NONE) {
                return;
            }
            int arrival = tick + bench.setting(LATENCY);
            int late = bench.findFault(LATE, number);
            if (late != NONE) {
                arrival += bench.faultPart(late, 2);
            }
            firstTicks[number] = arrival;
            queue(arrival, 2 * number);
            if (bench.findFault(TWICE, number) != NONE) {
                secondTicks[number] = arrival + 1;
                queue(arrival + 1, 2 * number + 1);
            }
        }

        private void queue(int tick, int arrival) {
            if (tick < 0 || tick >= ARRIVAL_TICKS || arrival < 0 || arrival >= followers.length) {
                return;
            }
            int last = tails[tick];
            if (lengths[tick] > 0 && last >= 0 && last < followers.length) {
                followers[last] = arrival;
            } else {
                heads[tick] = arrival;
            }
            tails[tick] = arrival;
            lengths[tick]++;
            underWay++;
        }

        int arrivalsIn(int tick) {
            return tick >= 0 && tick < ARRIVAL_TICKS ? lengths[tick] : 0;
        }

        int firstArrivalIn(int tick) {
            return tick >= 0 && tick < ARRIVAL_TICKS ? heads[tick] : NONE;
        }

        int arrivalBehind(int arrival) {
            return arrival >= 0 && arrival < followers.length ? followers[arrival] : NONE;
        }

        void arrive() {
            underWay--;
        }

        boolean isEmpty() {
            return underWay <= 0;
        }

        int sentCount() {
            return count;
        }

        int sentPart(int k, int part) {
            if (k < 0 || k >= count || k >= MOST_SENT) {
                return NONE;
            }
            switch (part) {
                case 0:
                    return sendTicks[k];
                case 1:
                    return directions[k];
                case 2:
                    return contents[k];
                case 3:
                    return firstTicks[k];
                default:
                    return secondTicks[k];
            }
        }

        /** Counts the transmissions of data whose item an earlier one had. */
        int repeatedData() {
            int seen = 0;
            int repeated = 0;
            for (int k = 0; k < MOST_SENT && k < count; k++) {
                if (directions[k] == DATA) {
                    repeated += seen >> contents[k] & 1;
                    seen |= 1 << contents[k];
                }
            }
            return repeated;
        }

        int answers() {
            int found = 0;
            for (int k = 0; k < MOST_SENT && k < count; k++) {
                if (directions[k] == ANSWER) {
                    found++;
                }
            }
            return found;
        }
    }

    /**
     * A run of the sender and the receiver. base is the sender's number in each protocol: the items
     * sent (plain), the present item (alternate), the base (window); at items the sender is done.
     */
    private static final class Run {
        private final Line line;
        private final Deliveries deliveries;
        private final States states;
        private Bench bench;
        private int protocol;
        private int items;
        private int timer;
        private int window;
        private int signs;
        private int base;
        private int next;
        private boolean isSent;
        private int timerStart;
        private int expected;
        private int tickCount;

        Run() {
            line = new Line();
            deliveries = new Deliveries();
            states = new States();
            bench = new Bench();
        }

        Line line() {
            return line;
        }

        Deliveries deliveries() {
            return deliveries;
        }

        States states() {
            return states;
        }

        int tickCount() {
            return tickCount;
        }

        /** Returns the promises that the run breaks as bits. */
        int play(Bench played) {
            begin(played);
            int ticks = played.setting(TICKS);
            for (int tick = 0; tick < ticks; tick++) {
                handleArrivals(tick);
                int item = takeSendersTurn(tick);
                if (item != NONE) {
                    line.send(bench, tick, DATA, item);
                }
                states.put(base, Math.min(deliveries.howMany(), MOST_RECEIVED));
                tickCount++;
                if (base >= items && line.isEmpty()) {
                    break;
                }
            }
            return deliveries.broken(played.setting(BUDGET));
        }

        private void begin(Bench played) {
            bench = played;
            protocol = played.setting(PROTOCOL);
            items = played.setting(ITEMS);
            timer = played.setting(TIMER);
            window = played.setting(WINDOW_SIZE);
            signs = protocol == WINDOW ? played.setting(MODULUS) : 2;
            base = 0;
            next = 0;
            isSent = false;
            timerStart = 0;
            expected = 0;
            tickCount = 0;
            line.begin();
            deliveries.begin(items);
            states.removeAll();
        }

        private int signOf(int number) {
            return signs > 0 ? number % signs : 0;
        }

        private void handleArrivals(int tick) {
            int arrivals = line.arrivalsIn(tick);
            int arrival = line.firstArrivalIn(tick);
            for (int k = 0; k < arrivals; k++) {
                int number = arrival / 2;
                line.arrive();
                int content = line.sentPart(number, 2);
                if (line.sentPart(number, 1) == ANSWER) {
                    receiveAnswer(content, tick);
                } else {
                    int answer = receiveData(content, tick);
                    if (answer != NONE) {
                        line.send(bench, tick, ANSWER, answer);
                    }
                }
                arrival = line.arrivalBehind(arrival);
            }
        }

        /** Returns the sign to answer with, or NONE if there is no answer. */
        private int receiveData(int item, int tick) {
            if (protocol == PLAIN) {
                deliveries.put(item, tick);
                return NONE;
            }
            int sign = signOf(item);
            if (sign == signOf(expected)) {
                deliveries.put(item, tick);
                expected++;
            }
            return protocol == WINDOW ? signOf(expected) : sign;
        }

        private void receiveAnswer(int sign, int tick) {
            if (protocol != WINDOW) {
                if (base < items && sign == signOf(base)) {
                    base++;
                    isSent = false;
                }
                return;
            }
            for (int number = base + 1; number <= next; number++) {
                if (signOf(number) == sign) {
                    base = number;
                    timerStart = tick;
                    return;
                }
            }
        }

        /** Returns the item that the sender sends in this tick, or NONE. */
        private int takeSendersTurn(int tick) {
            switch (protocol) {
                case ALTERNATE:
                    return takePresentItem(tick);
                case WINDOW:
                    return takeItemInWindow(tick);
                default:
                    return takeNextItem();
            }
        }

        private int takeNextItem() {
            if (base >= items) {
                return NONE;
            }
            base++;
            return base - 1;
        }

        private int takePresentItem(int tick) {
            if (base >= items || isSent && tick - timerStart < timer) {
                return NONE;
            }
            isSent = true;
            timerStart = tick;
            return base;
        }

        private int takeItemInWindow(int tick) {
            if (base < next && tick - timerStart >= timer) {
                timerStart = tick;
                next = base;
            }
            if (next >= base + window || next >= items) {
                return NONE;
            }
            if (base == next) {
                timerStart = tick;
            }
            next++;
            return next - 1;
        }
    }

    /** The input buffer, and the reading of a text from its first bytes. */
    private static final class Reader {
        private final int[] bytes;
        private int held;
        private int limit;
        private int start;
        private int next;
        private int token;
        private int wereSet;
        private int errorCode;
        private int errorStart;
        private final Bench target;

        Reader() {
            bytes = new int[MOST_BYTES];
            errorStart = NONE;
            target = new Bench();
        }

        int heldBytes() {
            return held;
        }

        int errorStart() {
            return errorStart;
        }

        /** Appends the four bytes of a number, the most significant one first. */
        void hold(int number) {
            for (int shift = 24; shift >= 0; shift -= 8) {
                if (held >= 0 && held < MOST_BYTES) {
                    bytes[held] = number >>> shift & 255;
                    held++;
                }
            }
        }

        /** The bench that the text of the last reading describes, if it had no error. */
        Bench described() {
            return target;
        }

        /** Returns 0 or the code of the error. */
        int read(int length) {
            limit = length;
            next = 0;
            wereSet = 0;
            errorCode = 0;
            errorStart = NONE;
            target.begin();
            boolean isGood = readHead();
            // A statement takes some bytes, so there are fewer statements than bytes.
            for (int k = 0; k < MOST_BYTES && isGood; k++) {
                advance();
                if (token == END) {
                    break;
                }
                isGood = readStatement();
            }
            held = 0;
            return errorCode;
        }

        private boolean readHead() {
            advance();
            if (!isWord("bench")) {
                return fail(NOT_ALLOWED);
            }
            advance();
            int protocol = protocolOfWord();
            if (protocol == NONE) {
                return fail(NOT_ALLOWED);
            }
            target.changeSetting(PROTOCOL, protocol);
            return readSetting(ITEMS) && readSetting(TICKS) && readSemicolon();
        }

        private boolean readStatement() {
            int what = settingOfWord();
            if (what == NONE) {
                return readFault() && readSemicolon();
            }
            if ((wereSet >> what & 1) != 0) {
                return fail(ONCE_MORE);
            }
            wereSet |= 1 << what;
            if (!readSetting(what)) {
                return false;
            }
            if (what == WINDOW_SIZE && !readSetting(MODULUS)) {
                return false;
            }
            return readSemicolon();
        }

        private boolean readFault() {
            int kind = kindOfWord();
            if (kind == NONE) {
                return fail(NOT_ALLOWED);
            }
            if (target.faultCount() >= MOST_FAULTS) {
                return fail(TOO_MANY_FAULTS);
            }
            int number = readNumber(0, MOST_SENT - 1);
            if (number == NONE) {
                return false;
            }
            if (target.findFault(kind, number) != NONE) {
                return fail(ONCE_MORE);
            }
            int amount = kind == LATE ? readNumber(1, MOST_AMOUNT) : 0;
            if (amount == NONE) {
                return false;
            }
            target.insert(kind, number, amount);
            return true;
        }

        private boolean readSetting(int what) {
            if (what < 0 || what >= SETTINGS) {
                return false;
            }
            int value = readNumber(LEAST_VALUE[what], MOST_VALUE[what]);
            if (value == NONE) {
                return false;
            }
            target.changeSetting(what, value);
            return true;
        }

        private boolean readSemicolon() {
            advance();
            return token == SEMICOLON || fail(NOT_ALLOWED);
        }

        /** Returns the number that is next, or NONE behind an error. */
        private int readNumber(int least, int most) {
            advance();
            if (token != NUMBER) {
                fail(NOT_ALLOWED);
                return NONE;
            }
            int value = 0;
            for (int k = start; k < next; k++) {
                value = 10 * value + byteAt(k) - '0';
            }
            if (value < least || value > most) {
                fail(OUT_OF_RANGE);
                return NONE;
            }
            return value;
        }

        /** The text is read in order, so the first error is the one with the smallest position. */
        private boolean fail(int code) {
            errorCode = code;
            errorStart = start;
            return false;
        }

        private int protocolOfWord() {
            if (isWord("plain")) {
                return PLAIN;
            }
            if (isWord("alternate")) {
                return ALTERNATE;
            }
            return isWord("window") ? WINDOW : NONE;
        }

        private int settingOfWord() {
            if (isWord("latency")) {
                return LATENCY;
            }
            if (isWord("timer")) {
                return TIMER;
            }
            if (isWord("size")) {
                return WINDOW_SIZE;
            }
            return isWord("budget") ? BUDGET : NONE;
        }

        private int kindOfWord() {
            if (isWord("drop")) {
                return DROP;
            }
            if (isWord("twice")) {
                return TWICE;
            }
            return isWord("late") ? LATE : NONE;
        }

        private boolean isWord(String word) {
            if (token != WORD || next - start != word.length()) {
                return false;
            }
            for (int k = 0; k < word.length(); k++) {
                if (byteAt(start + k) != word.charAt(k)) {
                    return false;
                }
            }
            return true;
        }

        private int byteAt(int k) {
            return k >= 0 && k < limit && k < MOST_BYTES ? bytes[k] : NONE;
        }

        /** Finds the next token: its kind, its first byte and the byte behind it. */
        private void advance() {
            while (next < limit && isGap(byteAt(next))) {
                next++;
            }
            start = next;
            if (next >= limit) {
                token = END;
                return;
            }
            int first = byteAt(next);
            next++;
            if (isLetter(first)) {
                while (next < limit && isLetter(byteAt(next))) {
                    next++;
                }
                token = next - start <= MOST_LETTERS ? WORD : INVALID;
            } else if (isDigit(first)) {
                while (next < limit && isDigit(byteAt(next))) {
                    next++;
                }
                token = next - start <= MOST_DIGITS ? NUMBER : INVALID;
            } else {
                token = first == ';' ? SEMICOLON : INVALID;
            }
        }

        private static boolean isGap(int sign) {
            return sign == 32 || sign == 10;
        }

        private static boolean isLetter(int sign) {
            return sign >= 'a' && sign <= 'z';
        }

        private static boolean isDigit(int sign) {
            return sign >= '0' && sign <= '9';
        }
    }
}
