/** The boundary cases of CHANGES and of the promises 20 to 28: a test of its own for each sentence that names one. */
public final class ChangeBoundaryTest {
    private static final int LEAST = Integer.MIN_VALUE;
    private static final int GREATEST = Integer.MAX_VALUE;
    private static final int[] LOW = {0, 1, 10, 1, 1, 1, 2, 1};
    private static final int[] HIGH = {2, 8, 200, 5, 20, 4, 8, 200};
    private static final int[] NO_SLOTS = {-1, 2, 3, 32, LEAST, GREATEST};
    private static final int[] NO_PROMISES = {-1, 4, 5, 32, 35, LEAST, LEAST + 3, GREATEST};
    private static final String HEAD = "bench plain 1 10;";
    private static final String TEN = HEAD + "drop 0;twice 0;late 0 1;drop 1;twice 1;late 1 1;drop 2;twice 2;late 2 1;"
            + "drop 119;";

    public static void main(String[] args) {
        upTo512Calls();
        changesThatAlterNothing();
        latestTen();
        latestFirst();
        whatASnapshotHolds();
        parseClears();
        exceptionsChangeNothing();
        missingFaultsAndSlotsFirst();
        missingPromises();
        numberAmongTheFaults();
        addEachKind();
        addOutOfRange();
        addOutOfRangeFirst();
        addAgain();
        addAnEleventh();
        removeEach();
        removeNone();
        clear();
        setEachValue();
        setPrevious();
        setOutOfRange();
        setLeavesTheRest();
        shrinkToTheCore();
        shrinkToNone();
        shrinkAmounts();
        shrinkInAscendingOrder();
        shrinkNoSuchPromise();
        shrinkNoPart();
        recordWithWhatWasBefore();
        recordCountsNewOnes();
        undoLatest();
        undoNone();
        undoBehindUndo();
        undoLeavesTheRest();
        saveInPlace();
        saveIsNoChange();
        saveNoSuchSlot();
        restoreStaysStored();
        restoreClearsTheHistory();
        restoreNumberOfFaults();
        restoreNoSuchSlot();
        restoreAnEmptySlot();
        Check.finish("ChangeBoundaryTest");
    }

    /** All that changes can change, as a text. */
    private static String stateOf(FaultBench x) {
        StringBuilder all = new StringBuilder();
        for (int what = 0; what <= 10; what++) {
            all.append(what == 9 ? "" : x.size(what) + " ");
        }
        for (int fault = 0; fault < x.size(8); fault++) {
            all.append('[').append(x.fault(fault, 0)).append(' ').append(x.fault(fault, 1)).append(' ');
            all.append(x.fault(fault, 2)).append(']');
        }
        for (int sender = 0; sender <= 8; sender++) {
            for (int received = 0; received <= 15; received++) {
                all.append(x.isRecorded(sender, received) ? " " + sender + "," + received : "");
            }
        }
        return all.toString();
    }

    // ---- CHANGES

    private static void upTo512Calls() {
        Check.sentence("An object is used for at most 512 calls after it has been made");
        FaultBench x = new FaultBench();
        for (int k = 0; k < 501; k++) {
            x.set(7, 1 + k % 200);
        }
        for (int k = 9; k >= 0; k--) {
            int left = k;
            Check.due("the last of 512", x::undo, left);
        }
        // The 512th call.
        Check.due("the 491st budget", () -> x.size(7), 1 + 490 % 200);
    }

    private static void changesThatAlterNothing() {
        Check.sentence("The methods from addFault to record are changes if they throw no exception, also if they alter "
                + "nothing.");
        FaultBench x = Check.bench("bench plain 2 20;late 0 2;");
        x.addFault(0, 119, 0);
        changes(x, 1);
        x.removeFault(1);
        changes(x, 2);
        Check.due("what it is", () -> x.set(7, 50), 50);
        changes(x, 3);
        Check.due("shrink to the same", () -> x.shrink(2), 1);
        changes(x, 4);
        x.clearFaults();
        changes(x, 5);
        Check.due("clear none", x::clearFaults, 0);
        changes(x, 6);
        Check.due("record", x::record, 3);
        changes(x, 7);
        Check.due("record the same", x::record, 0);
        changes(x, 8);
        x.set(7, 1);
        Check.due("shrink none", () -> x.shrink(3), 0);
        changes(x, 10);
        int[] states = {3, 3, 3, 0, 0, 0, 0, 0, 0, 0};
        int[] faults = {0, 0, 0, 0, 0, 1, 1, 1, 2, 1};
        for (int k = 0; k < 10; k++) {
            int[] due = {9 - k, states[k], faults[k]};
            Check.due("undo", x::undo, due[0]);
            Check.due("states", () -> x.size(10), due[1]);
            Check.due("faults", () -> x.size(8), due[2]);
        }
    }

    private static void changes(FaultBench x, int due) {
        Check.due("changes", () -> x.size(9), due);
    }

    private static void latestTen() {
        Check.sentence("The latest 10 changes can be undone");
        for (int made = 8; made <= 25; made++) {
            FaultBench x = new FaultBench();
            for (int k = 1; k <= made; k++) {
                x.set(7, 100 + k);
            }
            int kept = Math.min(10, made);
            changes(x, kept);
            for (int k = kept - 1; k >= 0; k--) {
                int left = k;
                Check.due("undo", x::undo, left);
            }
            Check.due("no more", x::undo, -1);
            int due = made <= 10 ? 50 : 90 + made;
            Check.due("of " + made, () -> x.size(7), due);
        }
    }

    private static void latestFirst() {
        Check.sentence("The latest 10 changes can be undone, the latest first.");
        FaultBench x = Check.bench("bench plain 2 20;");
        String[] states = new String[11];
        states[0] = stateOf(x);
        x.addFault(2, 0, 9);
        states[1] = stateOf(x);
        x.record();
        states[2] = stateOf(x);
        x.addFault(0, 1, 0);
        states[3] = stateOf(x);
        x.set(0, 2);
        states[4] = stateOf(x);
        x.record();
        states[5] = stateOf(x);
        x.set(0, 0);
        states[6] = stateOf(x);
        x.removeFault(1);
        states[7] = stateOf(x);
        x.shrink(2);
        states[8] = stateOf(x);
        x.clearFaults();
        states[9] = stateOf(x);
        x.set(2, 200);
        for (int k = 9; k >= 0; k--) {
            String due = states[k];
            int left = k;
            Check.due("undo", x::undo, left);
            Check.due("the state ahead of the change " + k, () -> stateOf(x), due);
        }
        Check.due("no more", x::undo, -1);
        Check.due("the first state", () -> stateOf(x), states[0]);
    }

    private static void whatASnapshotHolds() {
        Check.sentence("There are two snapshot slots, 0 and 1; a snapshot holds everything that changes can change.");
        FaultBench x = new FaultBench();
        x.saveSnapshot(0);
        String first = stateOf(x);
        x.record();
        for (int what = 0; what < 8; what++) {
            x.set(what, HIGH[what]);
        }
        for (int k = 0; k < 10; k++) {
            x.addFault(k % 3, k, k % 3 == 2 ? 20 : 0);
        }
        x.record();
        String second = stateOf(x);
        x.saveSnapshot(1);
        for (int what = 0; what < 8; what++) {
            x.set(what, LOW[what]);
        }
        x.clearFaults();
        x.record();
        x.restoreSnapshot(1);
        Check.due("slot 1", () -> stateOf(x), second);
        x.restoreSnapshot(0);
        Check.due("slot 0", () -> stateOf(x), first);
        x.restoreSnapshot(1);
        Check.due("slot 1 again", () -> stateOf(x), second);
    }

    private static void parseClears() {
        Check.sentence("A successful parse clears the undo history and empties both slots.");
        FaultBench x = new FaultBench();
        for (int k = 0; k < 12; k++) {
            x.set(7, 1 + k);
        }
        x.saveSnapshot(0);
        x.saveSnapshot(1);
        Check.due("not successful", () -> Check.parse(x, "bench"), 1);
        changes(x, 10);
        Check.due("slot 0 is there", () -> x.saveSnapshot(0), true);
        Check.due("slot 1 is there", () -> x.saveSnapshot(1), true);
        Check.due("successful", () -> Check.parse(x, HEAD), 0);
        changes(x, 0);
        Check.due("no undo", x::undo, -1);
        Check.raisesState("slot 0 is empty", () -> x.restoreSnapshot(0));
        Check.raisesState("slot 1 is empty", () -> x.restoreSnapshot(1));
        Check.due("slot 0 is empty", () -> x.saveSnapshot(0), false);
        Check.raisesState("slot 1 is empty still", () -> x.restoreSnapshot(1));
        Check.due("slot 1 is empty", () -> x.saveSnapshot(1), false);
        // Nothing of the earlier changes comes back.
        x.set(7, 3);
        Check.due("undo", x::undo, 0);
        Check.due("the budget of the text", () -> x.size(7), 50);
        Check.due("no more", x::undo, -1);
    }

    private static void exceptionsChangeNothing() {
        Check.sentence("A method that throws an exception changes nothing.");
        FaultBench x = Check.bench(TEN);
        x.record();
        x.set(4, 9);
        x.saveSnapshot(1);
        String before = stateOf(x);
        Check.Call[] wrong = {() -> x.parse(1), () -> x.parse(-1), () -> x.size(11), () -> x.fault(10, 0), () -> x.fault(0, 3),
            () -> x.result(8), () -> x.sent(0, 5), () -> x.breaks(4), () -> x.matters(10, 0), () -> x.matters(0, 4),
            () -> x.smallest(4), () -> x.core(4), () -> x.leastAmount(10, 0), () -> x.leastAmount(0, 4),
            () -> x.attack(4, 0), () -> x.attack(0, 3), () -> x.weakPoints(4), () -> x.timerFor(4),
            () -> x.addFault(3, 0, 0), () -> x.addFault(0, 50, 0), () -> x.addFault(0, 0, 0), () -> x.removeFault(10),
            () -> x.removeFault(-1), () -> x.set(8, 1), () -> x.set(0, 3), () -> x.set(7, 0), () -> x.shrink(4),
            () -> x.saveSnapshot(2), () -> x.restoreSnapshot(2), () -> x.restoreSnapshot(0)};
        for (int k = 0; k < wrong.length; k++) {
            int number = k;
            Check.due("call " + k + " throws", () -> hasThrown(wrong[number]), true);
            Check.due("behind call " + k, () -> stateOf(x), before);
            changes(x, 2);
        }
        Check.due("undo", x::undo, 1);
        Check.due("undo", x::undo, 0);
        Check.due("slot 0 is empty still", () -> x.saveSnapshot(0), false);
        x.restoreSnapshot(1);
        Check.due("slot 1 is as it was", () -> stateOf(x), before);
        // Nothing can be shrunk.
        FaultBench y = Check.bench("bench plain 1 10;late 0 1;");
        Check.raisesState("shrink", () -> y.shrink(0));
        changes(y, 0);
        Check.faults("behind shrink", y, Check.f(2, 0, 1));
    }

    private static boolean hasThrown(Check.Call call) {
        try {
            call.run();
            return false;
        } catch (IllegalArgumentException | IllegalStateException | IndexOutOfBoundsException e) {
            return true;
        }
    }

    private static void missingFaultsAndSlotsFirst() {
        Check.sentence("a fault or slot that does not exist causes an IndexOutOfBoundsException, which is checked before any "
                + "other exception");
        FaultBench x = Check.bench(HEAD + "late 0 5;");
        for (int fault : new int[] {-1, 1, 2, 10, LEAST, GREATEST}) {
            for (int other : new int[] {-1, 0, 4, GREATEST}) {
                Check.raisesIndex("fault(" + fault + ", " + other + ")", () -> x.fault(fault, other));
                Check.raisesIndex("matters(" + fault + ", " + other + ")", () -> x.matters(fault, other));
                Check.raisesIndex("leastAmount(" + fault + ", " + other + ")", () -> x.leastAmount(fault, other));
            }
            Check.raisesIndex("removeFault(" + fault + ")", () -> x.removeFault(fault));
        }
        for (int slot : NO_SLOTS) {
            Check.raisesIndex("saveSnapshot(" + slot + ")", () -> x.saveSnapshot(slot));
            Check.raisesIndex("restoreSnapshot(" + slot + ")", () -> x.restoreSnapshot(slot));
        }
    }

    private static void missingPromises() {
        Check.sentence("a promise that is not 0 to 3 causes an IllegalArgumentException.");
        FaultBench x = Check.bench(HEAD + "late 0 5;");
        for (int promise : NO_PROMISES) {
            Check.raisesArgument("breaks(" + promise + ")", () -> x.breaks(promise));
            Check.raisesArgument("matters(0, " + promise + ")", () -> x.matters(0, promise));
            Check.raisesArgument("smallest(" + promise + ")", () -> x.smallest(promise));
            Check.raisesArgument("core(" + promise + ")", () -> x.core(promise));
            Check.raisesArgument("leastAmount(0, " + promise + ")", () -> x.leastAmount(0, promise));
            Check.raisesArgument("attack(" + promise + ", 0)", () -> x.attack(promise, 0));
            Check.raisesArgument("weakPoints(" + promise + ")", () -> x.weakPoints(promise));
            Check.raisesArgument("timerFor(" + promise + ")", () -> x.timerFor(promise));
            Check.raisesArgument("shrink(" + promise + ")", () -> x.shrink(promise));
        }
    }

    // ---- addFault, removeFault, clearFaults

    private static void numberAmongTheFaults() {
        Check.sentence("Promise 20: Returns the number that it has among the faults then.");
        FaultBench x = new FaultBench();
        Check.due("the first", () -> x.addFault(1, 50, 0), 0);
        Check.due("at the end", () -> x.addFault(0, 119, 0), 1);
        Check.due("at the start", () -> x.addFault(2, 0, 20), 0);
        Check.due("between", () -> x.addFault(0, 51, 0), 2);
        Check.due("ahead by its kind", () -> x.addFault(0, 50, 0), 1);
        Check.due("behind by its kind", () -> x.addFault(2, 50, 1), 3);
        Check.due("the last", () -> x.addFault(2, 119, 1), 6);
        Check.due("the last but one", () -> x.addFault(1, 119, 0), 6);
        Check.due("the first again", () -> x.addFault(0, 0, 0), 0);
        Check.due("the tenth", () -> x.addFault(1, 0, 0), 1);
        Check.faults("ten", x, Check.f(0, 0, 0), Check.f(1, 0, 0), Check.f(2, 0, 20), Check.f(0, 50, 0), Check.f(1, 50, 0),
                Check.f(2, 50, 1), Check.f(0, 51, 0), Check.f(0, 119, 0), Check.f(1, 119, 0), Check.f(2, 119, 1));
    }

    private static void addEachKind() {
        Check.sentence("Promise 20: kind: 0 drop, 1 twice, 2 late; number: 0 to 119; amount: 1 to 20 for a late one, otherwise "
                + "0");
        FaultBench x = new FaultBench();
        for (int number = 0; number < 120; number++) {
            int n = number;
            Check.due("drop " + n, () -> x.addFault(0, n, 0), 0);
            Check.due("twice " + n, () -> x.addFault(1, n, 0), 1);
            Check.due("late " + n, () -> x.addFault(2, n, 1 + n % 20), 2);
            Check.faults("of " + n, x, Check.f(0, n, 0), Check.f(1, n, 0), Check.f(2, n, 1 + n % 20));
            x.clearFaults();
        }
    }

    private static void addOutOfRange() {
        Check.sentence("Promise 20: Throws IllegalArgumentException if one of these is out of range");
        FaultBench x = new FaultBench();
        for (int far : new int[] {-1, 3, 4, 32, LEAST, GREATEST}) {
            Check.raisesArgument("kind " + far, () -> x.addFault(far, 0, 0));
            Check.raisesArgument("kind " + far, () -> x.addFault(far, 0, 1));
        }
        for (int kind = 0; kind < 3; kind++) {
            int k = kind;
            int amount = kind == 2 ? 1 : 0;
            for (int far : new int[] {-1, 120, 121, 999, LEAST, GREATEST}) {
                Check.raisesArgument("kind " + k + " number " + far, () -> x.addFault(k, far, amount));
            }
        }
        for (int far : new int[] {-1, 1, 2, 20, 21, LEAST, GREATEST}) {
            Check.raisesArgument("drop amount " + far, () -> x.addFault(0, 0, far));
            Check.raisesArgument("twice amount " + far, () -> x.addFault(1, 0, far));
        }
        for (int far : new int[] {-1, 0, 21, 22, 999, LEAST, GREATEST}) {
            Check.raisesArgument("late amount " + far, () -> x.addFault(2, 0, far));
        }
        Check.due("none was added", () -> x.size(8), 0);
        changes(x, 0);
    }

    private static void addOutOfRangeFirst() {
        Check.sentence("Promise 20: Throws IllegalArgumentException .. (checked first)");
        FaultBench one = Check.bench(HEAD + "late 5 5;drop 5;");
        Check.raisesArgument("late with 0, there is one", () -> one.addFault(2, 5, 0));
        Check.raisesArgument("late with 21, there is one", () -> one.addFault(2, 5, 21));
        Check.raisesArgument("drop with 1, there is one", () -> one.addFault(0, 5, 1));
        FaultBench ten = Check.bench(TEN);
        Check.raisesArgument("ten, kind 3", () -> ten.addFault(3, 50, 0));
        Check.raisesArgument("ten, number 120", () -> ten.addFault(0, 120, 0));
        Check.raisesArgument("ten, late with 0", () -> ten.addFault(2, 50, 0));
        Check.raisesArgument("ten, twice with 1", () -> ten.addFault(1, 50, 1));
    }

    private static void addAgain() {
        Check.sentence("Promise 20: Throws IllegalStateException if there is a fault of this kind with this number");
        FaultBench x = Check.bench(HEAD + "drop 0;twice 7;late 119 20;");
        Check.raisesState("drop 0", () -> x.addFault(0, 0, 0));
        Check.raisesState("twice 7", () -> x.addFault(1, 7, 0));
        Check.raisesState("late 119 20", () -> x.addFault(2, 119, 20));
        Check.raisesState("late 119 1", () -> x.addFault(2, 119, 1));
        changes(x, 0);
        Check.due("another kind", () -> x.addFault(1, 0, 0), 1);
        Check.due("another number", () -> x.addFault(2, 118, 20), 3);
        x.removeFault(0);
        Check.due("drop 0 is gone", () -> x.addFault(0, 0, 0), 0);
    }

    private static void addAnEleventh() {
        Check.sentence("Promise 20: Throws IllegalStateException if .. there are 10 faults");
        FaultBench x = Check.bench(TEN);
        for (int number = 0; number < 120; number++) {
            int n = number;
            Check.raisesState("drop " + n, () -> x.addFault(0, n, 0));
            Check.raisesState("twice " + n, () -> x.addFault(1, n, 0));
            Check.raisesState("late " + n, () -> x.addFault(2, n, 20));
        }
        changes(x, 0);
        x.removeFault(4);
        Check.due("a tenth", () -> x.addFault(2, 118, 20), 8);
        Check.raisesState("an eleventh", () -> x.addFault(2, 117, 20));
        x.undo();
        Check.due("another tenth", () -> x.addFault(2, 117, 20), 8);
    }

    private static void removeEach() {
        Check.sentence("Promise 21: Removes a fault. Returns the number of faults that are left.");
        for (int fault = 0; fault < 10; fault++) {
            int f = fault;
            FaultBench x = Check.bench("bench plain 1 10;drop 0;drop 1;drop 2;drop 3;drop 4;drop 5;drop 6;drop 7;drop 8;drop 9;");
            Check.due("removeFault(" + f + ")", () -> x.removeFault(f), 9);
            for (int k = 0; k < 9; k++) {
                int place = k;
                Check.due("what is left", () -> x.fault(place, 1), place < f ? place : place + 1);
            }
        }
        FaultBench y = Check.bench(HEAD + "late 3 20;");
        Check.due("the only one", () -> y.removeFault(0), 0);
        Check.due("undo", y::undo, 0);
        Check.faults("it is there again", y, Check.f(2, 3, 20));
    }

    private static void removeNone() {
        Check.sentence("Promise 21: Throws IndexOutOfBoundsException if there is no such fault");
        FaultBench none = new FaultBench();
        FaultBench ten = Check.bench(TEN);
        for (int fault : new int[] {-1, 0, 1, 9, LEAST, GREATEST}) {
            Check.raisesIndex("none: removeFault(" + fault + ")", () -> none.removeFault(fault));
        }
        for (int fault : new int[] {-1, 10, 11, 32, LEAST, GREATEST}) {
            Check.raisesIndex("ten: removeFault(" + fault + ")", () -> ten.removeFault(fault));
        }
        ten.removeFault(9);
        Check.raisesIndex("nine: removeFault(9)", () -> ten.removeFault(9));
        Check.due("nine: removeFault(8)", () -> ten.removeFault(8), 8);
        changes(none, 0);
        changes(ten, 2);
    }

    private static void clear() {
        Check.sentence("Promise 22: Removes all faults. Returns how many were removed.");
        FaultBench x = new FaultBench();
        Check.due("none", x::clearFaults, 0);
        for (int count = 1; count <= 10; count++) {
            for (int k = 0; k < count; k++) {
                x.addFault(0, k, 0);
            }
            int due = count;
            Check.due("all of " + count, x::clearFaults, due);
            Check.due("none is left", () -> x.size(8), 0);
            Check.raisesIndex("none is left", () -> x.fault(0, 0));
        }
        x.undo();
        Check.due("ten again", () -> x.size(8), 10);
    }

    // ---- set

    private static void setEachValue() {
        Check.sentence("Promise 23: what: 0 to 7 as for size; value: 0 to 2 for the protocol, otherwise as in the text");
        FaultBench x = new FaultBench();
        for (int what = 0; what < 8; what++) {
            int w = what;
            for (int value = LOW[what]; value <= HIGH[what]; value++) {
                int v = value;
                int before = x.size(w);
                Check.due("set(" + w + ", " + v + ")", () -> x.set(w, v), before);
                Check.due("size(" + w + ")", () -> x.size(w), v);
            }
        }
    }

    private static void setPrevious() {
        Check.sentence("Promise 23: Returns the previous value.");
        FaultBench x = new FaultBench();
        int[] first = {0, 1, 10, 1, 8, 2, 4, 50};
        for (int what = 0; what < 8; what++) {
            int w = what;
            Check.due("the first", () -> x.set(w, HIGH[w]), first[w]);
            Check.due("the greatest", () -> x.set(w, HIGH[w]), HIGH[w]);
            Check.due("the greatest", () -> x.set(w, LOW[w]), HIGH[w]);
            Check.due("the least", () -> x.set(w, first[w]), LOW[w]);
        }
        Check.sizes("as at first", x, first);
    }

    private static void setOutOfRange() {
        Check.sentence("Promise 23: Throws IllegalArgumentException if what or value is out of range");
        FaultBench x = new FaultBench();
        for (int what = 0; what < 8; what++) {
            int w = what;
            for (int far : new int[] {LOW[what] - 1, HIGH[what] + 1, -1, 999, LEAST, GREATEST}) {
                Check.raisesArgument("set(" + w + ", " + far + ")", () -> x.set(w, far));
            }
        }
        for (int far : new int[] {-1, 8, 9, 10, 11, 32, LEAST, GREATEST}) {
            for (int value : new int[] {0, 1, 2, 10, LEAST, GREATEST}) {
                Check.raisesArgument("set(" + far + ", " + value + ")", () -> x.set(far, value));
            }
        }
        Check.sizes("nothing", x, 0, 1, 10, 1, 8, 2, 4, 50, 0, 0, 0);
    }

    private static void setLeavesTheRest() {
        Check.sentence("Promise 23: Sets a setting.");
        int[] first = {0, 1, 10, 1, 8, 2, 4, 50};
        for (int what = 0; what < 8; what++) {
            FaultBench x = Check.bench(TEN);
            x.set(what, what == 0 ? 2 : HIGH[what]);
            for (int other = 0; other < 8; other++) {
                int o = other;
                Check.due("size(" + o + ")", () -> x.size(o), other == what ? HIGH[o] : first[o]);
            }
            Check.due("the faults", () -> x.size(8), 10);
            changes(x, 1);
        }
    }

    // ---- shrink

    private static void shrinkToTheCore() {
        Check.sentence("Promise 24: what remains is the part of it that core returns .. Returns the number of faults that "
                + "remain.");
        // All ten are needed up to 14, nine up to 13, and so on.
        for (int budget = 14; budget >= 5; budget--) {
            FaultBench x = Check.bench("bench alternate 1 200;timer 1;latency 5;drop 0;drop 1;drop 2;drop 3;drop 4;drop 5;"
                    + "drop 6;drop 7;drop 8;drop 9;");
            x.set(7, budget);
            int due = budget - 4;
            Check.due("up to " + budget, () -> x.shrink(3), due);
            Check.due("they remain", () -> x.size(8), due);
            Check.due("the last one", () -> x.fault(due - 1, 1), due - 1);
            Check.due("again", () -> x.shrink(3), due);
        }
        // Of two that do the first remains; of a schedule that does not the part that does.
        FaultBench y = Check.bench("bench plain 2 20;drop 0;twice 0;drop 1;");
        Check.due("loss", () -> y.core(0), 1);
        Check.due("double", () -> y.shrink(1), 1);
        Check.faults("double", y, Check.f(1, 0, 0));
        y.undo();
        Check.due("loss", () -> y.shrink(0), 1);
        Check.faults("loss", y, Check.f(0, 0, 0));
    }

    private static void shrinkToNone() {
        Check.sentence("Promise 24: what remains is the part of it that core returns (the empty one)");
        FaultBench x = Check.bench("bench plain 2 20;drop 0;late 1 20;budget 1;");
        Check.due("broken without faults", () -> x.shrink(3), 0);
        Check.faults("none", x);
        Check.due("again", () -> x.shrink(3), 0);
        changes(x, 2);
        x.undo();
        x.undo();
        Check.faults("undone", x, Check.f(0, 0, 0), Check.f(2, 1, 20));
    }

    private static void shrinkAmounts() {
        Check.sentence("Promise 24: then, for each late fault that remains, .. its amount becomes the one that leastAmount "
                + "returns");
        for (int amount = 1; amount <= 20; amount++) {
            // Late by its amount or more it comes behind the budget.
            FaultBench x = Check.bench("bench plain 1 60;late 0 20;");
            x.set(7, amount);
            int due = amount;
            Check.due("late", () -> x.shrink(3), 1);
            Check.faults("late by " + due, x, Check.f(2, 0, due));
        }
        // Late by 9 it breaks nothing, though late by 6 it would: the amounts of the core are those of the schedule.
        FaultBench y = Check.bench("bench alternate 3 30;timer 3;late 0 9;");
        Check.raisesState("by 9", () -> y.shrink(1));
        y.clearFaults();
        y.addFault(2, 0, 7);
        Check.due("by 7", () -> y.shrink(1), 1);
        Check.faults("by 6", y, Check.f(2, 0, 6));
        // A late one that is not in the core goes, and those of other kinds have no amount.
        FaultBench z = Check.bench("bench plain 3 60;drop 0;late 1 9;twice 2;");
        z.shrink(0);
        Check.faults("a drop", z, Check.f(0, 0, 0));
    }

    private static void shrinkInAscendingOrder() {
        Check.sentence("Promise 24: in ascending order, its amount becomes the one that leastAmount returns for the schedule as "
                + "it is then.");
        // With late 5 by 10, late 0 by 5 is enough; then late 5 by 3. With late 0 by 7 it would be 2, and then late 0 by 6.
        FaultBench x = Check.bench("bench alternate 3 40;timer 6;budget 12;late 0 7;late 5 10;");
        Check.due("late 0", () -> x.leastAmount(0, 3), 5);
        Check.due("late 5", () -> x.leastAmount(1, 3), 2);
        Check.due("both", () -> x.shrink(3), 2);
        Check.faults("both", x, Check.f(2, 0, 5), Check.f(2, 5, 3));
        Check.due("the run breaks it still", () -> x.breaks(3), true);
        changes(x, 1);
        // Three late ones of a core.
        FaultBench y = Check.bench("bench alternate 3 40;timer 1;late 0 7;late 2 7;late 3 4;budget 11;");
        Check.due("three", () -> y.shrink(3), 3);
        Check.faults("three", y, Check.f(2, 0, 2), Check.f(2, 2, 1), Check.f(2, 3, 4));
    }

    private static void shrinkNoSuchPromise() {
        Check.sentence("Promise 24: Throws IllegalArgumentException if there is no such promise (checked first)");
        FaultBench x = new FaultBench();
        FaultBench y = Check.bench("bench plain 2 10;budget 1;");
        for (int promise : NO_PROMISES) {
            Check.raisesArgument("shrink(" + promise + ")", () -> x.shrink(promise));
            Check.raisesArgument("shrink(" + promise + ")", () -> y.shrink(promise));
        }
        changes(x, 0);
        changes(y, 0);
    }

    private static void shrinkNoPart() {
        Check.sentence("Promise 24: Throws IllegalStateException if no part of the schedule breaks the promise");
        FaultBench x = new FaultBench();
        FaultBench y = Check.bench("bench plain 1 30;late 0 20;budget 21;drop 119;");
        for (int promise = 0; promise < 4; promise++) {
            int p = promise;
            Check.raisesState("no faults, " + p, () -> x.shrink(p));
            Check.raisesState("faults that break none, " + p, () -> y.shrink(p));
        }
        Check.faults("they stay", y, Check.f(2, 0, 20), Check.f(0, 119, 0));
        y.set(7, 20);
        Check.due("in 20", () -> y.shrink(3), 1);
    }

    // ---- record

    private static void recordWithWhatWasBefore() {
        Check.sentence("Promise 25: Records the states of the run, with what was recorded before (also with other settings).");
        FaultBench x = Check.bench("bench plain 2 10;");
        x.record();
        x.set(0, 1);
        x.set(1, 8);
        x.set(2, 200);
        x.record();
        Check.due("of plain", () -> x.isRecorded(2, 0), false);
        Check.due("of plain", () -> x.isRecorded(2, 1), true);
        Check.due("of both", () -> x.isRecorded(2, 2), true);
        Check.due("of alternate", () -> x.isRecorded(8, 8), true);
        // plain: 1,0 2,1 2,2; alternate: n,n and n,n+1 up to 8,8.
        Check.due("3 + 17 - 1", () -> x.size(10), 19);
        x.set(0, 0);
        x.addFault(1, 0, 0);
        x.record();
        // 1,0 2,1 3,3 4,4 .. 8,8 8,9: of them the first two are those of plain, and 3,3 to 8,8 those of alternate.
        Check.due("8,9 is new", () -> x.isRecorded(8, 9), true);
        Check.due("19 + 1", () -> x.size(10), 20);
    }

    private static void recordCountsNewOnes() {
        Check.sentence("Promise 25: Returns how many of them had not been recorded.");
        FaultBench x = Check.bench("bench plain 1 10;drop 0;");
        Check.due("one", x::record, 1);
        Check.due("none", x::record, 0);
        x.clearFaults();
        Check.due("one more", x::record, 1);
        x.set(1, 8);
        Check.due("1,0 and 2,1 up to 8,7, then 8,8: the first is known", x::record, 8);
        Check.due("ten", () -> x.size(10), 10);
        Check.due("undo", x::undo, 5);
        Check.due("two", () -> x.size(10), 2);
        Check.due("new again", x::record, 8);
    }

    // ---- undo

    private static void undoLatest() {
        Check.sentence("Promise 26: Undoes the latest change that has not been undone. Returns the number of changes that can "
                + "still be undone");
        FaultBench x = new FaultBench();
        x.set(7, 1);
        x.set(7, 2);
        x.set(7, 3);
        Check.due("of three", x::undo, 2);
        Check.due("2", () -> x.size(7), 2);
        x.set(7, 4);
        Check.due("of three", x::undo, 2);
        Check.due("2", () -> x.size(7), 2);
        Check.due("of two", x::undo, 1);
        Check.due("1", () -> x.size(7), 1);
        Check.due("of one", x::undo, 0);
        Check.due("50", () -> x.size(7), 50);
    }

    private static void undoNone() {
        Check.sentence("Promise 26: NONE if there was none to undo.");
        FaultBench x = new FaultBench();
        Check.due("a new object", x::undo, -1);
        x.set(7, 1);
        x.undo();
        Check.due("undone", x::undo, -1);
        Check.due("undone", x::undo, -1);
        Check.due("nothing changed", () -> x.size(7), 50);
        // What is undone in vain does not count against later changes.
        x.set(7, 2);
        Check.due("of one", x::undo, 0);
        Check.due("50", () -> x.size(7), 50);
        for (int k = 0; k < 11; k++) {
            x.set(7, 3 + k);
        }
        for (int k = 0; k < 10; k++) {
            x.undo();
        }
        Check.due("the eleventh", x::undo, -1);
        Check.due("3", () -> x.size(7), 3);
    }

    private static void undoBehindUndo() {
        Check.sentence("Promise 26: Undoes the latest change that has not been undone. (behind ten and more)");
        FaultBench x = new FaultBench();
        for (int k = 0; k < 10; k++) {
            x.set(7, 101 + k);
        }
        x.undo();
        x.undo();
        changes(x, 8);
        x.set(7, 1);
        x.set(7, 2);
        changes(x, 10);
        x.set(7, 3);
        changes(x, 10);
        int[] due = {2, 1, 108, 107, 106, 105, 104, 103, 102, 101};
        for (int k = 0; k < 10; k++) {
            int value = due[k];
            x.undo();
            Check.due("undo " + k, () -> x.size(7), value);
        }
        Check.due("no more", x::undo, -1);
    }

    private static void undoLeavesTheRest() {
        Check.sentence("Promise 26: Undoes the latest change (and nothing else)");
        FaultBench x = new FaultBench();
        Check.due("an error", () -> Check.parse(x, "bench plain 1 10;?"), 1);
        x.set(7, 7);
        x.saveSnapshot(0);
        x.append(0, 0, 0, 0, 0);
        Check.due("undo", x::undo, 0);
        Check.due("the position", x::errorPosition, 17);
        Check.due("the buffer", () -> x.append(0, 0, 0, 0, 0), 40);
        x.restoreSnapshot(0);
        Check.due("the slot", () -> x.size(7), 7);
        Check.due("the buffer", () -> x.append(0, 0, 0, 0, 0), 60);
    }

    // ---- snapshots

    private static void saveInPlace() {
        Check.sentence("Promise 27: Saves a snapshot in a slot, in place of an earlier one. Returns whether there was an "
                + "earlier one.");
        FaultBench x = new FaultBench();
        for (int slot = 0; slot < 2; slot++) {
            int s = slot;
            x.set(7, 11 + slot);
            Check.due("none", () -> x.saveSnapshot(s), false);
            x.set(7, 21 + slot);
            Check.due("one", () -> x.saveSnapshot(s), true);
            Check.due("one", () -> x.saveSnapshot(s), true);
        }
        x.restoreSnapshot(0);
        Check.due("slot 0", () -> x.size(7), 21);
        x.restoreSnapshot(1);
        Check.due("slot 1", () -> x.size(7), 22);
        Check.due("behind a restore", () -> x.saveSnapshot(0), true);
    }

    private static void saveIsNoChange() {
        Check.sentence("The methods from addFault to record are changes (saveSnapshot is none)");
        FaultBench x = new FaultBench();
        x.saveSnapshot(0);
        changes(x, 0);
        Check.due("none to undo", x::undo, -1);
        x.set(7, 3);
        x.saveSnapshot(1);
        changes(x, 1);
        x.set(7, 4);
        Check.due("undo", x::undo, 1);
        Check.due("undo", x::undo, 0);
        Check.due("slot 0 is there", () -> x.saveSnapshot(0), true);
        Check.due("slot 1 is there", () -> x.restoreSnapshot(1), 0);
        Check.due("3", () -> x.size(7), 3);
    }

    private static void saveNoSuchSlot() {
        Check.sentence("Promise 27: Throws IndexOutOfBoundsException if there is no such slot");
        FaultBench x = new FaultBench();
        for (int slot : NO_SLOTS) {
            Check.raisesIndex("saveSnapshot(" + slot + ")", () -> x.saveSnapshot(slot));
        }
        Check.due("slot 0 is empty still", () -> x.saveSnapshot(0), false);
        Check.due("slot 1 is empty still", () -> x.saveSnapshot(1), false);
    }

    private static void restoreStaysStored() {
        Check.sentence("Promise 28: Restores the snapshot of a slot, which stays stored.");
        FaultBench x = Check.bench(TEN);
        x.record();
        x.saveSnapshot(1);
        String saved = stateOf(x);
        for (int k = 0; k < 3; k++) {
            x.clearFaults();
            x.addFault(2, 7, 7);
            x.set(0, 1);
            x.record();
            Check.due("restore", () -> x.restoreSnapshot(1), 10);
            Check.due("as it was saved", () -> stateOf(x), saved);
        }
        Check.due("it is there", () -> x.saveSnapshot(1), true);
    }

    private static void restoreClearsTheHistory() {
        Check.sentence("Promise 28: The undo history is cleared.");
        FaultBench x = new FaultBench();
        for (int k = 0; k < 12; k++) {
            x.set(7, 1 + k);
        }
        x.saveSnapshot(0);
        changes(x, 10);
        x.restoreSnapshot(0);
        changes(x, 0);
        Check.due("none to undo", x::undo, -1);
        Check.due("12", () -> x.size(7), 12);
        x.set(7, 99);
        Check.due("of one", x::undo, 0);
        Check.due("12", () -> x.size(7), 12);
        Check.due("none to undo", x::undo, -1);
    }

    private static void restoreNumberOfFaults() {
        Check.sentence("Promise 28: Returns the number of faults then.");
        FaultBench x = new FaultBench();
        x.saveSnapshot(0);
        for (int count = 1; count <= 10; count++) {
            x.addFault(0, count, 0);
            x.saveSnapshot(1);
            int due = count;
            Check.due("none", () -> x.restoreSnapshot(0), 0);
            Check.due("all of " + count, () -> x.restoreSnapshot(1), due);
        }
    }

    private static void restoreNoSuchSlot() {
        Check.sentence("Promise 28: Throws IndexOutOfBoundsException if there is no such slot (checked first)");
        FaultBench x = new FaultBench();
        FaultBench y = new FaultBench();
        y.saveSnapshot(0);
        y.saveSnapshot(1);
        for (int slot : NO_SLOTS) {
            Check.raisesIndex("empty: restoreSnapshot(" + slot + ")", () -> x.restoreSnapshot(slot));
            Check.raisesIndex("full: restoreSnapshot(" + slot + ")", () -> y.restoreSnapshot(slot));
        }
    }

    private static void restoreAnEmptySlot() {
        Check.sentence("Promise 28: Throws IllegalStateException if the slot is empty");
        FaultBench x = new FaultBench();
        x.set(7, 9);
        Check.raisesState("slot 0", () -> x.restoreSnapshot(0));
        Check.raisesState("slot 1", () -> x.restoreSnapshot(1));
        changes(x, 1);
        x.saveSnapshot(1);
        Check.raisesState("slot 0 still", () -> x.restoreSnapshot(0));
        changes(x, 1);
        Check.due("slot 1", () -> x.restoreSnapshot(1), 0);
        Check.due("9", () -> x.size(7), 9);
        Check.raisesState("slot 0 still", () -> x.restoreSnapshot(0));
    }
}
