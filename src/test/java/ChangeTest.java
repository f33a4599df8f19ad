/** Promises 20 to 28: addFault, removeFault, clearFaults, set, shrink, record, undo, saveSnapshot, restoreSnapshot. */
public final class ChangeTest {
    public static void main(String[] args) {
        addFault();
        addFaultRefused();
        removeAndClear();
        set();
        setRefused();
        shrink();
        shrinkKeepsTheRest();
        record();
        undo();
        undoKinds();
        snapshots();
        snapshotsRefused();
        Check.finish("ChangeTest");
    }

    private static void addFault() {
        FaultBench x = new FaultBench();
        Check.due("late 5", () -> x.addFault(2, 5, 20), 0);
        Check.due("drop 119", () -> x.addFault(0, 119, 0), 1);
        Check.due("drop 5", () -> x.addFault(0, 5, 0), 0);
        Check.due("twice 5", () -> x.addFault(1, 5, 0), 1);
        Check.due("twice 0", () -> x.addFault(1, 0, 0), 0);
        Check.due("late 6", () -> x.addFault(2, 6, 1), 4);
        Check.faults("added", x, Check.f(1, 0, 0), Check.f(0, 5, 0), Check.f(1, 5, 0), Check.f(2, 5, 20),
                Check.f(2, 6, 1), Check.f(0, 119, 0));
        Check.due("six changes", () -> x.size(9), 6);
    }

    private static void addFaultRefused() {
        FaultBench x = Check.bench("bench plain 1 10;late 3 4;");
        int[][] wrong = {{-1, 0, 0}, {3, 0, 0}, {3, 0, 1}, {0, -1, 0}, {0, 120, 0}, {1, 120, 0}, {2, 120, 1}, {0, 0, 1},
            {1, 0, 1}, {0, 0, -1}, {1, 0, -1}, {2, 0, 0}, {2, 0, -1}, {2, 0, 21}, {2, 3, 21}, {2, -1, 1},
            {Integer.MIN_VALUE, 0, 0}, {Integer.MAX_VALUE, 0, 0}, {0, Integer.MIN_VALUE, 0}, {0, Integer.MAX_VALUE, 0},
            {2, 0, Integer.MIN_VALUE}, {2, 0, Integer.MAX_VALUE}};
        for (int[] w : wrong) {
            Check.raisesArgument("addFault " + w[0] + " " + w[1] + " " + w[2], () -> x.addFault(w[0], w[1], w[2]));
        }
        Check.raisesState("there is one", () -> x.addFault(2, 3, 4));
        Check.raisesState("there is one with another amount", () -> x.addFault(2, 3, 5));
        Check.due("nothing changed", () -> x.size(9), 0);
        Check.faults("nothing changed", x, Check.f(2, 3, 4));
        for (int k = 0; k < 9; k++) {
            x.addFault(0, 10 + k, 0);
        }
        Check.raisesState("ten faults", () -> x.addFault(0, 50, 0));
        Check.raisesArgument("ten faults, out of range", () -> x.addFault(0, 120, 0));
        Check.due("ten faults", () -> x.size(8), 10);
        x.removeFault(0);
        Check.due("room again", () -> x.addFault(1, 119, 0), 9);
    }

    private static void removeAndClear() {
        FaultBench x = Check.bench("bench plain 1 10;drop 1;twice 2;late 3 4;");
        Check.raisesIndex("removeFault(3)", () -> x.removeFault(3));
        Check.raisesIndex("removeFault(-1)", () -> x.removeFault(-1));
        Check.raisesIndex("removeFault of the greatest", () -> x.removeFault(Integer.MAX_VALUE));
        Check.raisesIndex("removeFault of the least", () -> x.removeFault(Integer.MIN_VALUE));
        Check.due("no change", () -> x.size(9), 0);
        Check.due("removeFault(1)", () -> x.removeFault(1), 2);
        Check.faults("removed", x, Check.f(0, 1, 0), Check.f(2, 3, 4));
        Check.due("removeFault(1)", () -> x.removeFault(1), 1);
        Check.due("clearFaults", x::clearFaults, 1);
        Check.due("clearFaults of none", x::clearFaults, 0);
        Check.due("four changes", () -> x.size(9), 4);
        Check.raisesIndex("removeFault(0)", () -> x.removeFault(0));
        Check.due("undo the second clearFaults", x::undo, 3);
        Check.faults("still none", x);
        Check.due("undo the first clearFaults", x::undo, 2);
        Check.faults("one", x, Check.f(0, 1, 0));
        Check.due("undo", x::undo, 1);
        Check.due("undo", x::undo, 0);
        Check.faults("all", x, Check.f(0, 1, 0), Check.f(1, 2, 0), Check.f(2, 3, 4));
    }

    private static final int[] LOW = {0, 1, 10, 1, 1, 1, 2, 1};
    private static final int[] HIGH = {2, 8, 200, 5, 20, 4, 8, 200};

    private static void set() {
        FaultBench x = new FaultBench();
        int[] first = {0, 1, 10, 1, 8, 2, 4, 50};
        for (int what = 0; what < 8; what++) {
            int w = what;
            Check.due("set to the most " + w, () -> x.set(w, HIGH[w]), first[w]);
            Check.due("set to the least " + w, () -> x.set(w, LOW[w]), HIGH[w]);
            Check.due("size " + w, () -> x.size(w), LOW[w]);
        }
        Check.sizes("all", x, LOW);
        Check.due("set what it is", () -> x.set(0, 0), 0);
        // The settings count in the run.
        FaultBench y = Check.bench("bench plain 3 10;");
        y.set(0, 1);
        Check.due("alternate", () -> y.result(0), 7);
        y.set(3, 2);
        Check.due("latency", () -> y.result(0), 10);
        y.set(2, 13);
        Check.due("ticks", () -> y.result(0), 13);
        y.set(1, 2);
        Check.due("items", () -> y.result(0), 9);
        y.set(4, 3);
        Check.due("timer", () -> y.result(4), 2);
        y.set(7, 5);
        Check.due("budget", () -> y.result(7), 8);
        y.set(0, 2);
        y.set(4, 20);
        y.set(1, 8);
        Check.due("window of 2", () -> y.result(1), 13);
        y.set(5, 1);
        Check.due("window of 1", () -> y.result(1), 7);
    }

    private static void setRefused() {
        FaultBench x = new FaultBench();
        for (int what = 0; what < 8; what++) {
            int w = what;
            Check.raisesArgument("set below " + w, () -> x.set(w, LOW[w] - 1));
            Check.raisesArgument("set above " + w, () -> x.set(w, HIGH[w] + 1));
            Check.raisesArgument("set the least " + w, () -> x.set(w, Integer.MIN_VALUE));
            Check.raisesArgument("set the greatest " + w, () -> x.set(w, Integer.MAX_VALUE));
        }
        Check.raisesArgument("set(-1, 1)", () -> x.set(-1, 1));
        Check.raisesArgument("set(8, 1)", () -> x.set(8, 1));
        Check.raisesArgument("set of the least", () -> x.set(Integer.MIN_VALUE, 1));
        Check.raisesArgument("set of the greatest", () -> x.set(Integer.MAX_VALUE, 1));
        Check.sizes("nothing changed", x, 0, 1, 10, 1, 8, 2, 4, 50, 0, 0, 0);
    }

    private static void shrink() {
        FaultBench x = Check.bench("bench plain 3 30;late 0 9;drop 1;twice 2;late 2 5;");
        Check.due("order", () -> x.shrink(2), 1);
        // Item 0 behind item 1 (which arrives in 2): late by 2.
        Check.faults("order", x, Check.f(2, 0, 2));
        Check.due("again", () -> x.shrink(2), 1);
        Check.faults("again", x, Check.f(2, 0, 2));
        Check.due("two changes", () -> x.size(9), 2);
        Check.raisesState("no part", () -> x.shrink(1));
        Check.raisesArgument("shrink(-1)", () -> x.shrink(-1));
        Check.raisesArgument("shrink(4)", () -> x.shrink(4));
        Check.raisesArgument("shrink of the greatest", () -> x.shrink(Integer.MAX_VALUE));
        Check.due("two changes still", () -> x.size(9), 2);
        Check.faults("still", x, Check.f(2, 0, 2));
        Check.due("undo", x::undo, 1);
        Check.due("undo", x::undo, 0);
        Check.faults("undone", x, Check.f(2, 0, 9), Check.f(0, 1, 0), Check.f(1, 2, 0), Check.f(2, 2, 5));

        FaultBench y = Check.bench("bench plain 2 30;late 0 9;budget 1;");
        Check.due("broken without faults", () -> y.shrink(3), 0);
        Check.faults("broken without faults", y);

        // In ascending order: first 0 becomes as low as it can while 1 is late by 9, then 1.
        FaultBench z = Check.bench("bench alternate 1 30;timer 4;budget 6;late 0 9;late 1 9;drop 9;");
        // 0 sent in 0, 1 sent in 4: both behind 6 needs 0 late by 6, and 1 late by 2.
        Check.due("two late ones", () -> z.shrink(3), 2);
        Check.faults("two late ones", z, Check.f(2, 0, 6), Check.f(2, 1, 2));
        // A part that breaks it is found, also if the whole schedule does not.
        FaultBench v = Check.bench("bench plain 1 30;drop 0;twice 0;late 0 4;");
        Check.due("hidden", () -> v.shrink(1), 1);
        Check.faults("hidden", v, Check.f(1, 0, 0));
    }

    private static void shrinkKeepsTheRest() {
        FaultBench x = Check.bench("bench plain 2 30;late 0 9;drop 1;budget 20;timer 3;");
        Check.due("record", x::record, 3);
        // What was tried in between leaves nothing behind.
        x.clearFaults();
        x.set(3, 4);
        x.record();
        x.undo();
        x.undo();
        x.undo();
        Check.due("a fault of another transmission", () -> x.addFault(1, 9, 0), 2);
        Check.due("shrink", () -> x.shrink(0), 1);
        Check.sizes("the rest", x, 0, 2, 30, 1, 3, 2, 4, 20, 1, 3, 3);
        int[][] recorded = {{1, 0}, {2, 0}, {2, 1}};
        for (int[] pair : recorded) {
            Check.due("recorded " + pair[0] + " " + pair[1], () -> x.isRecorded(pair[0], pair[1]), true);
        }
    }

    private static void record() {
        FaultBench x = Check.bench("bench plain 2 10;");
        Check.due("record", x::record, 3);
        Check.due("record again", x::record, 0);
        Check.due("three", () -> x.size(10), 3);
        x.set(0, 1);
        // (0,0) (0,1) (1,1) (1,2) (2,2): the last is known.
        Check.due("record alternate", x::record, 4);
        Check.due("seven", () -> x.size(10), 7);
        Check.due("of plain", () -> x.isRecorded(2, 1), true);
        Check.due("of alternate", () -> x.isRecorded(0, 1), true);
        Check.due("four changes", () -> x.size(9), 4);
        Check.due("undo", x::undo, 3);
        Check.due("three", () -> x.size(10), 3);
        Check.due("of alternate", () -> x.isRecorded(0, 1), false);
        x.undo();
        x.undo();
        Check.due("still three", () -> x.size(10), 3);
        x.undo();
        Check.due("none", () -> x.size(10), 0);
        FaultBench y = Check.bench("bench plain 8 60;twice 0;twice 1;twice 2;twice 3;twice 4;twice 5;twice 6;twice 7;");
        Check.due("at most 15", y::record, 9);
        Check.due("at most 15", () -> y.isRecorded(8, 15), true);
        Check.due("no 16", () -> y.isRecorded(8, 16), false);
    }

    private static void undo() {
        FaultBench x = new FaultBench();
        Check.due("nothing", x::undo, -1);
        for (int k = 1; k <= 12; k++) {
            x.set(7, 100 + k);
            int due = Math.min(10, k);
            Check.due("changes " + k, () -> x.size(9), due);
        }
        for (int k = 9; k >= 0; k--) {
            int left = k;
            Check.due("undo to " + k, x::undo, left);
            Check.due("budget " + k, () -> x.size(7), 102 + left);
        }
        Check.due("no more", x::undo, -1);
        Check.due("no more", x::undo, -1);
        Check.due("the third budget", () -> x.size(7), 102);
        x.set(7, 3);
        x.set(7, 4);
        x.undo();
        x.set(7, 5);
        Check.due("behind an undo", x::undo, 1);
        Check.due("behind an undo", () -> x.size(7), 3);
        // Many changes and undos in turn, beyond ten.
        for (int k = 0; k < 25; k++) {
            x.set(7, 50 + k);
            x.set(7, 1);
            x.undo();
        }
        Check.due("in turn", () -> x.size(7), 74);
        x.undo();
        Check.due("in turn", () -> x.size(7), 73);
        Check.due("in turn", () -> x.size(9), 8);
    }

    private static void undoKinds() {
        FaultBench x = Check.bench("bench plain 2 20;late 0 9;");
        x.addFault(0, 1, 0);
        x.removeFault(0);
        x.clearFaults();
        x.set(1, 3);
        x.addFault(2, 0, 7);
        x.shrink(2);
        x.record();
        Check.due("seven", () -> x.size(9), 7);
        Check.due("record", x::undo, 6);
        Check.due("no states", () -> x.size(10), 0);
        Check.faults("shrunk", x, Check.f(2, 0, 2));
        Check.due("shrink", x::undo, 5);
        Check.faults("not shrunk", x, Check.f(2, 0, 7));
        Check.due("addFault", x::undo, 4);
        Check.faults("none", x);
        Check.due("set", x::undo, 3);
        Check.due("items", () -> x.size(1), 2);
        Check.due("clearFaults", x::undo, 2);
        Check.faults("one", x, Check.f(0, 1, 0));
        Check.due("removeFault", x::undo, 1);
        Check.faults("two", x, Check.f(2, 0, 9), Check.f(0, 1, 0));
        Check.due("addFault", x::undo, 0);
        Check.faults("one", x, Check.f(2, 0, 9));
        // An exception is no change, and questions are none.
        Check.raisesState("addFault", () -> x.addFault(2, 0, 1));
        x.result(0);
        x.core(0);
        x.attack(2, 1);
        Check.due("no change", () -> x.size(9), 0);
    }

    private static void snapshots() {
        FaultBench x = Check.bench("bench alternate 2 20;drop 3;late 1 2;timer 4;");
        int states = x.record();
        Check.due("save 0", () -> x.saveSnapshot(0), false);
        Check.due("no change", () -> x.size(9), 1);
        x.set(0, 0);
        x.set(1, 8);
        x.clearFaults();
        x.record();
        int more = x.size(10);
        Check.due("save 1", () -> x.saveSnapshot(1), false);
        Check.due("undo goes on", x::undo, 4);
        Check.due("restore 0", () -> x.restoreSnapshot(0), 2);
        Check.sizes("slot 0", x, 1, 2, 20, 1, 4, 2, 4, 50, 2, 0, states);
        Check.faults("slot 0", x, Check.f(2, 1, 2), Check.f(0, 3, 0));
        Check.due("no undo", x::undo, -1);
        Check.due("restore 1", () -> x.restoreSnapshot(1), 0);
        Check.sizes("slot 1", x, 0, 8, 20, 1, 4, 2, 4, 50, 0, 0, more);
        // It stays stored, and what is changed afterwards is not in it.
        x.addFault(1, 1, 0);
        x.set(7, 9);
        Check.due("restore 1 again", () -> x.restoreSnapshot(1), 0);
        Check.sizes("slot 1 again", x, 0, 8, 20, 1, 4, 2, 4, 50, 0, 0, more);
        // In place of the earlier one; undo does not touch the slots.
        x.addFault(1, 1, 0);
        Check.due("save 0 again", () -> x.saveSnapshot(0), true);
        Check.due("undo", x::undo, 0);
        Check.due("none", () -> x.size(8), 0);
        Check.due("restore 0", () -> x.restoreSnapshot(0), 1);
        Check.faults("slot 0", x, Check.f(1, 1, 0));
        Check.due("save 1 again", () -> x.saveSnapshot(1), true);
    }

    private static void snapshotsRefused() {
        FaultBench x = new FaultBench();
        int[] slots = {-1, 2, 3, Integer.MIN_VALUE, Integer.MAX_VALUE};
        for (int slot : slots) {
            Check.raisesIndex("saveSnapshot(" + slot + ")", () -> x.saveSnapshot(slot));
            Check.raisesIndex("restoreSnapshot(" + slot + ")", () -> x.restoreSnapshot(slot));
        }
        x.set(7, 3);
        Check.raisesState("restoreSnapshot(0)", () -> x.restoreSnapshot(0));
        Check.raisesState("restoreSnapshot(1)", () -> x.restoreSnapshot(1));
        Check.due("the history stays", () -> x.size(9), 1);
        x.saveSnapshot(1);
        Check.raisesState("restoreSnapshot(0)", () -> x.restoreSnapshot(0));
        Check.due("restoreSnapshot(1)", () -> x.restoreSnapshot(1), 0);
    }
}
