/** Promises 12 to 19: matters, smallest, core, leastAmount, attack, weakPoints, timerFor, isRecorded. */
public final class WouldBeTest {
    public static void main(String[] args) {
        matters();
        smallestAndCore();
        coreOfSeveral();
        leastAmount();
        attack();
        weakPoints();
        timerFor();
        isRecorded();
        nothingChanges();
        wrongInputs();
        Check.finish("WouldBeTest");
    }

    private static void matters() {
        // Either drop of item 0 and 1 breaks no loss: without one of them the other still does.
        FaultBench x = Check.bench("bench plain 2 10;drop 0;drop 1;twice 1;late 0 3;");
        Check.faults("x", x, Check.f(0, 0, 0), Check.f(2, 0, 3), Check.f(0, 1, 0), Check.f(1, 1, 0));
        for (int fault = 0; fault < 4; fault++) {
            int f = fault;
            Check.due("one of two, " + f, () -> x.matters(f, 0), false);
        }
        // Item 1 comes twice only without its drop: the run does not break the promise as it is.
        Check.due("not broken", () -> x.matters(2, 1), false);
        FaultBench y = Check.bench("bench plain 2 10;drop 0;twice 1;budget 2;late 1 1;");
        int[][] bits = {{1, 0, 0, 1}, {0, 1, 0, 0}, {0, 0, 0, 0}};
        for (int fault = 0; fault < 3; fault++) {
            for (int promise = 0; promise < 4; promise++) {
                int f = fault;
                int p = promise;
                // Both the drop of 0 and the late 1 break "in time": neither matters alone.
                boolean due = bits[f][p] == 1 && !(p == 3);
                Check.due("matters(" + f + ", " + p + ")", () -> y.matters(f, p), due);
            }
        }
        // A run without faults that breaks it already: none matters.
        FaultBench z = Check.bench("bench plain 2 10;budget 1;drop 0;");
        Check.due("broken without", () -> z.matters(0, 3), false);
        Check.due("matters", () -> z.matters(0, 0), true);
    }

    private static void smallestAndCore() {
        FaultBench x = Check.bench("bench plain 3 20;");
        for (int promise = 0; promise < 4; promise++) {
            int p = promise;
            Check.due("no faults, smallest(" + p + ")", () -> x.smallest(p), -1);
            Check.due("no faults, core(" + p + ")", () -> x.core(p), -1);
        }
        x.set(7, 2);
        Check.due("broken without faults", () -> x.smallest(3), 0);
        Check.due("broken without faults", () -> x.core(3), 0);
        // A part can break what the whole does not: the drop hides the twice.
        FaultBench y = Check.bench("bench plain 3 20;drop 1;twice 1;");
        Check.due("hidden", () -> y.breaks(1), false);
        Check.due("hidden", () -> y.smallest(1), 1);
        Check.due("hidden", () -> y.core(1), 2);
        Check.due("hidden", () -> y.core(0), 1);
        Check.due("none", () -> y.core(2), -1);
        // Item 0 is late by 2 and item 1 by 1: 0 comes behind 2, of two the first.
        FaultBench z = Check.bench("bench plain 3 20;late 0 2;late 1 2;");
        Check.due("of two", () -> z.core(2), 1);
        Check.due("of two", () -> z.smallest(2), 1);
    }

    private static void coreOfSeveral() {
        // alternate, one item, timer 3 in 10 ticks: sent in 0, 3, 6, 9 (the last comes too late). With all of
        // the three packets dropped nothing is delivered.
        FaultBench x = Check.bench("bench alternate 1 10;timer 3;drop 0;drop 1;drop 2;drop 5;");
        Check.due("three drops", () -> x.core(0), 7);
        Check.due("three drops", () -> x.smallest(0), 3);
        // In time, in a budget of 4: dropping 0 and 1 is enough; with 3 dropping 0 is enough.
        x.set(7, 4);
        Check.due("two drops", () -> x.core(3), 3);
        Check.due("two drops", () -> x.smallest(3), 2);
        x.set(7, 3);
        Check.due("one drop", () -> x.core(3), 1);
        // Two faults are needed, and several pairs do: the first fault that differs decides.
        FaultBench y = Check.bench("bench alternate 1 10;timer 4;late 0 20;drop 0;late 1 20;drop 1;drop 2;");
        // drop 0, late 0, drop 1, late 1: 0b0101 (drop 0, drop 1) is the first of the pairs.
        Check.faults("y", y, Check.f(0, 0, 0), Check.f(2, 0, 20), Check.f(0, 1, 0), Check.f(2, 1, 20),
                Check.f(0, 2, 0));
        y.set(7, 8);
        Check.due("first pair", () -> y.core(3), 0b00101);
        y.removeFault(0);
        // late 0, drop 1, late 1, drop 2.
        Check.due("next pair", () -> y.core(3), 0b0011);
        y.removeFault(1);
        // late 0, late 1, drop 2: late 0 sends 1 in 4, which is late too.
        Check.due("last pair", () -> y.core(3), 0b011);
        // Of the pairs just {0, 3} and {1, 2} break it: the first differing fault is 0, though 9 is greater than 6.
        // {0, 3}: d0 again in 2, answered twice in 3, d1 (4) late, again in 6. {1, 2}: d0 in 0, 2 and 4, d1 in 6.
        FaultBench z = Check.bench("bench alternate 2 15;timer 2;budget 6;late 0 2;drop 1;drop 3;late 4 4;");
        Check.due("pair 0 and 3", () -> z.core(3), 9);
        Check.due("its number", () -> z.smallest(3), 2);
        z.removeFault(0);
        Check.due("pair 1 and 2", () -> z.core(3), 3);
    }

    private static void leastAmount() {
        FaultBench x = Check.bench("bench plain 3 30;late 0 9;drop 1;late 2 3;budget 10;");
        // Item 1 is dropped, so 0 comes behind a greater one if it comes behind 3.
        Check.due("order", () -> x.leastAmount(0, 2), 6);
        Check.due("loss at once", () -> x.leastAmount(0, 0), 1);
        Check.due("not a late one", () -> x.leastAmount(1, 0), -1);
        Check.due("never double", () -> x.leastAmount(0, 1), -1);
        // 2 is handled behind 0, which comes in 10, at any amount up to its own.
        Check.due("order of 2", () -> x.leastAmount(2, 2), 1);
        FaultBench y = Check.bench("bench plain 2 30;late 1 5;budget 6;");
        Check.due("budget", () -> y.leastAmount(0, 3), 5);
        y.set(7, 7);
        Check.due("not enough", () -> y.leastAmount(0, 3), -1);
        // It can break a promise at a lower amount and not at its own.
        FaultBench z = Check.bench("bench alternate 3 30;timer 3;late 0 9;");
        Check.due("not as it is", () -> z.breaks(1), false);
        Check.due("lower", () -> z.leastAmount(0, 1), 6);
    }

    private static void attack() {
        FaultBench x = Check.bench("bench plain 3 20;drop 0;drop 1;twice 2;");
        attack("no loss", x, 0, 0, 0, 0);
        attack("no double", x, 1, 1, 0, 0);
        attack("order", x, 2, 2, 0, 2);
        attack("in time", x, 3, 0, 0, 0);
        // alternate: no single fault breaks no loss; item 0 goes again in 10, is answered in 11, and item 1 goes in
        // 12: only from the tick 14 on, behind that of item 1, a late item 0 is taken for item 2.
        FaultBench z = Check.bench("bench alternate 2 60;timer 10;budget 12;drop 0;");
        attack("none", z, 0, -1, -1, -1);
        attack("late twin", z, 1, 2, 0, 13);
        attack("order", z, 2, 2, 0, 13);
        attack("delayed", z, 3, 0, 0, 0);
        z.set(7, 13);
        attack("not delayed enough", z, 3, -1, -1, -1);
        FaultBench y = Check.bench("bench plain 8 200;budget 27;latency 5;");
        attack("drop is first", y, 3, 0, 0, 0);
        attack("late by 2", y, 2, 2, 0, 2);
        // The latest one: item 0 goes again in 17, item 1 arrives in 20, the late item 0 in 1 + 20.
        z.set(4, 17);
        attack("late by 20", z, 1, 2, 0, 20);
        z.set(4, 18);
        attack("not late enough", z, 1, -1, -1, -1);
        // Late by 1: the answer misses the timer, item 0 goes again, and its sign is that of r = 2.
        FaultBench v = Check.bench("bench window 2 13;latency 2;timer 4;size 3 2;");
        attack("late by 1", v, 1, 2, 0, 1);
        // window 1 with a modulus of 8: a twin never is taken for another, and a lost one comes again in time.
        FaultBench w = Check.bench("bench window 2 100;size 1 8;timer 20;budget 23;");
        attack("window", w, 1, -1, -1, -1);
        attack("window", w, 3, -1, -1, -1);
        w.set(7, 22);
        attack("window", w, 3, 0, 0, 0);
        z.set(7, 2);
        attack("broken without faults", z, 3, -1, -1, -1);
    }

    private static void weakPoints() {
        FaultBench x = Check.bench("bench plain 5 20;drop 0;drop 1;");
        int[] due = {5, 0, 0, 5};
        for (int promise = 0; promise < 4; promise++) {
            int p = promise;
            Check.due("plain weakPoints(" + p + ")", () -> x.weakPoints(p), due[p]);
        }
        x.set(7, 4);
        Check.due("broken without faults", () -> x.weakPoints(3), 0);
        // alternate, 3 items, timer 8: d0 0, a0 1, d1 2, a1 3, d2 4 (5), a2 5; a drop costs 7 or 6 ticks.
        FaultBench y = Check.bench("bench alternate 3 60;budget 11;");
        Check.due("alternate", () -> y.weakPoints(0), 0);
        Check.due("alternate", () -> y.weakPoints(3), 5);
        y.set(7, 12);
        Check.due("alternate", () -> y.weakPoints(3), 5);
        y.set(7, 13);
        Check.due("alternate", () -> y.weakPoints(3), 0);
    }

    private static void timerFor() {
        FaultBench x = Check.bench("bench alternate 2 60;timer 20;drop 0;budget 8;");
        // d0 again in timer, delivered in timer + 1, item 1 in timer + 3.
        Check.due("breaks as it is", () -> x.breaks(3), true);
        Check.due("the least", () -> x.timerFor(3), 1);
        // With a timer of 1 item 0 goes again in 1, and the numbers of the faults are others.
        FaultBench y = Check.bench("bench alternate 3 60;timer 9;late 0 7;");
        Check.due("least of y", () -> y.timerFor(1), least(y, 1));
        FaultBench z = Check.bench("bench plain 2 10;drop 0;");
        Check.due("none", () -> z.timerFor(0), -1);
        Check.due("the first", () -> z.timerFor(1), 1);
        // Not the first: with timers below 3 the late item 0 is taken for item 2.
        FaultBench v = Check.bench("bench alternate 3 60;timer 1;late 0 4;");
        Check.due("least of v", () -> v.timerFor(1), least(v, 1));
        Check.due("least of v", () -> v.timerFor(0), least(v, 0));
        FaultBench w = Check.bench("bench alternate 1 40;timer 20;drop 0;drop 1;drop 2;drop 3;drop 4;drop 5;budget 6;");
        // The 7th packet is sent in 6 times the timer at the earliest: never in time.
        Check.due("never in time", () -> w.timerFor(3), -1);
        w.set(7, 7);
        Check.due("just in time", () -> w.timerFor(3), 1);
        Check.due("any of them", () -> w.timerFor(0), 1);
        // The answers come late or not at all: with each timer below 20 item 0 goes again and arrives by the tick
        // 24, when its sign is that of r = 2.
        FaultBench u = Check.bench("bench window 2 25;latency 5;timer 5;size 2 2;late 2 11;drop 3;");
        Check.due("the greatest", () -> u.timerFor(1), 20);
        u.set(2, 26);
        Check.due("none of them", () -> u.timerFor(1), -1);
    }

    /** The least timer, by setting one after the other. */
    private static int least(FaultBench x, int promise) {
        int before = x.size(4);
        int found = -1;
        for (int timer = 20; timer >= 1; timer--) {
            x.set(4, timer);
            found = x.breaks(promise) ? found : timer;
        }
        x.set(4, before);
        return found;
    }

    private static void isRecorded() {
        FaultBench x = Check.bench("bench plain 2 10;");
        Check.due("not yet", () -> x.isRecorded(1, 0), false);
        x.record();
        // Behind 0: (1, 0), behind 1: (2, 1), behind 2: (2, 2).
        int[][] due = {{1, 0}, {2, 1}, {2, 2}};
        for (int sender = 0; sender < 9; sender++) {
            for (int received = 0; received < 16; received++) {
                boolean is = false;
                for (int[] pair : due) {
                    is = is || pair[0] == sender && pair[1] == received;
                }
                int s = sender;
                int r = received;
                Check.due("isRecorded(" + s + ", " + r + ")", () -> x.isRecorded(s, r), is);
            }
        }
        int[][] none = {{-1, 0}, {1, -1}, {9, 0}, {1, 16}, {1, 32}, {Integer.MIN_VALUE, 0}, {1, Integer.MIN_VALUE},
            {Integer.MAX_VALUE, 0}, {1, Integer.MAX_VALUE}, {33, 0}};
        for (int[] pair : none) {
            Check.due("isRecorded " + pair[0] + " " + pair[1], () -> x.isRecorded(pair[0], pair[1]), false);
        }
    }

    private static void nothingChanges() {
        FaultBench x = Check.bench("bench alternate 3 30;timer 3;late 0 9;drop 4;budget 20;");
        x.record();
        int states = x.size(10);
        for (int promise = 0; promise < 4; promise++) {
            x.matters(0, promise);
            x.smallest(promise);
            x.core(promise);
            x.leastAmount(0, promise);
            x.attack(promise, 0);
            x.weakPoints(promise);
            x.timerFor(promise);
        }
        Check.sizes("nothing changed", x, 1, 3, 30, 1, 3, 2, 4, 20, 2, 1, states);
        Check.faults("nothing changed", x, Check.f(2, 0, 9), Check.f(0, 4, 0));
    }

    private static void wrongInputs() {
        FaultBench x = Check.bench("bench plain 2 10;late 0 3;");
        int[] promises = {-1, 4, 32, 33, Integer.MIN_VALUE, Integer.MAX_VALUE};
        for (int p : promises) {
            Check.raisesArgument("matters(0, " + p + ")", () -> x.matters(0, p));
            Check.raisesArgument("smallest(" + p + ")", () -> x.smallest(p));
            Check.raisesArgument("core(" + p + ")", () -> x.core(p));
            Check.raisesArgument("leastAmount(0, " + p + ")", () -> x.leastAmount(0, p));
            Check.raisesArgument("attack(" + p + ", 0)", () -> x.attack(p, 0));
            Check.raisesArgument("weakPoints(" + p + ")", () -> x.weakPoints(p));
            Check.raisesArgument("timerFor(" + p + ")", () -> x.timerFor(p));
            Check.raisesIndex("matters(1, " + p + ")", () -> x.matters(1, p));
            Check.raisesIndex("leastAmount(1, " + p + ")", () -> x.leastAmount(1, p));
        }
        int[] faults = {-1, 1, 10, Integer.MIN_VALUE, Integer.MAX_VALUE};
        for (int f : faults) {
            Check.raisesIndex("matters(" + f + ", 0)", () -> x.matters(f, 0));
            Check.raisesIndex("leastAmount(" + f + ", 0)", () -> x.leastAmount(f, 0));
        }
        Check.raisesArgument("attack(0, 3)", () -> x.attack(0, 3));
        Check.raisesArgument("attack(0, -1)", () -> x.attack(0, -1));
        FaultBench y = Check.bench("bench plain 2 10;drop 0;");
        Check.raisesArgument("leastAmount of a drop", () -> y.leastAmount(0, 4));
    }

    private static void attack(String what, FaultBench x, int promise, int kind, int number, int amount) {
        Check.due(what + " kind", () -> x.attack(promise, 0), kind);
        Check.due(what + " number", () -> x.attack(promise, 1), number);
        Check.due(what + " amount", () -> x.attack(promise, 2), amount);
    }
}
