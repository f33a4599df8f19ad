/** Promises 7 to 11: result, delivered, sent, breaks, reaches; each run was traced by hand. */
public final class RunTest {
    public static void main(String[] args) {
        plain();
        plainWithFaults();
        plainEnds();
        alternate();
        alternateWithTimer();
        alternateWithLateTwins();
        window();
        windowGoesBack();
        windowWithSmallModulus();
        lineIsFull();
        statesAndBudget();
        wrongInputs();
        Check.finish("RunTest");
    }

    private static void plain() {
        FaultBench x = Check.bench("bench plain 3 10;latency 3;");
        // Sent in 0, 1, 2; delivered in 3, 4, 5.
        Check.results("plain", x, 6, 3, 3, 5, 0, 0, 6, 0);
        Check.delivers("plain", x, 0, 1, 2);
        Check.sent("plain", x, 0, 0, 0, 0, 3, -1);
        Check.sent("plain", x, 2, 2, 0, 2, 5, -1);
        Check.states("plain", x, new int[][] {{1, 0}, {2, 0}, {3, 0}, {3, 1}, {3, 2}, {3, 3}});
    }

    private static void plainWithFaults() {
        FaultBench x = Check.bench("bench plain 4 20;twice 0;late 1 4;twice 1;drop 2;twice 2;late 2 9;late 3 1;");
        // 0 arrives in 1 and 2, 1 in 6 and 7, 2 never, 3 in 5.
        Check.results("faults", x, 8, 4, 5, -1, 0, 0, 7, 15);
        Check.delivers("faults", x, 0, 0, 3, 1, 1);
        Check.sent("twice", x, 0, 0, 0, 0, 1, 2);
        Check.sent("late and twice", x, 1, 1, 0, 1, 6, 7);
        Check.sent("all three", x, 2, 2, 0, 2, -1, -1);
        Check.sent("late", x, 3, 3, 0, 3, 5, -1);
        Check.sent("none", x, 4, -1, -1, -1, -1, -1);

        // In one tick the lower transmission is handled first, also if it comes for the second time.
        FaultBench y = Check.bench("bench plain 3 20;twice 0;late 1 2;");
        // 0 in 1 and 2; 1 in 4; 2 in 3.
        Check.delivers("order", y, 0, 0, 2, 1);
        FaultBench z = Check.bench("bench plain 3 20;late 0 1;twice 0;");
        // 0 in 2 and 3; 1 in 2; 2 in 3.
        Check.delivers("ties", z, 0, 1, 0, 2);
        Check.results("ties", z, 4, 3, 4, 3, 0, 0, 4, 6);
        // All are sent before the first one arrives: 0 in 4 and 5, 1 in 4, 2 in 5.
        FaultBench v = Check.bench("bench plain 3 30;latency 3;late 0 1;twice 0;");
        Check.delivers("ties before", v, 0, 1, 0, 2);
        // 0 in 3, 1 in 5 and 6, 2 in 5, 3 in 6.
        FaultBench w = Check.bench("bench plain 4 30;latency 3;late 1 1;twice 1;");
        Check.delivers("more ties", w, 0, 1, 2, 1, 3);
        // 0 to 3 in 8: by ascending transmissions, in whatever order they were sent late.
        FaultBench u = Check.bench("bench plain 4 30;latency 5;late 0 3;late 1 2;late 2 1;twice 2;");
        Check.delivers("all in one tick", u, 0, 1, 2, 3, 2);
    }

    private static void plainEnds() {
        // A packet that is still to arrive behind the last tick keeps the run going.
        FaultBench x = Check.bench("bench plain 1 10;late 0 20;");
        Check.results("beyond the end", x, 10, 1, 0, -1, 0, 0, 1, 9);
        Check.sent("beyond the end", x, 0, 0, 0, 0, 21, -1);
        FaultBench y = Check.bench("bench plain 1 10;late 0 8;twice 0;");
        // It arrives in 9, the last tick, and would once more in 10.
        Check.results("at the end", y, 10, 1, 1, 9, 0, 0, 2, 0);
        Check.sent("at the end", y, 0, 0, 0, 0, 9, 10);
        FaultBench z = Check.bench("bench plain 1 10;drop 0;");
        Check.results("nothing under way", z, 1, 1, 0, -1, 0, 0, 1, 9);
        FaultBench v = Check.bench("bench plain 8 10;latency 5;");
        Check.results("too slow", v, 10, 8, 5, -1, 0, 0, 10, 9);
        Check.sent("too slow", v, 7, 7, 0, 7, 12, -1);
        FaultBench w = Check.bench("bench plain 8 200;late 7 20;latency 5;");
        Check.results("late", w, 33, 8, 8, 32, 0, 0, 13, 0);
    }

    private static void alternate() {
        FaultBench x = Check.bench("bench alternate 3 20;");
        Check.results("alternate", x, 7, 6, 3, 5, 0, 3, 7, 0);
        Check.delivers("alternate", x, 0, 1, 2);
        Check.sent("data 0", x, 0, 0, 0, 0, 1, -1);
        Check.sent("answer 0", x, 1, 1, 1, 0, 2, -1);
        Check.sent("data 1", x, 2, 2, 0, 1, 3, -1);
        Check.sent("answer 1", x, 3, 3, 1, 1, 4, -1);
        Check.sent("data 2", x, 4, 4, 0, 2, 5, -1);
        Check.sent("answer 2", x, 5, 5, 1, 0, 6, -1);
        Check.sent("no more", x, 6, -1);
        Check.states("alternate", x, new int[][] {{0, 0}, {0, 1}, {1, 1}, {1, 2}, {2, 2}, {2, 3}, {3, 3}});
    }

    private static void alternateWithTimer() {
        // Sent in 0, 3, 6 and 9: with a latency of 5 the first answer comes in 10.
        FaultBench x = Check.bench("bench alternate 1 40;latency 5;timer 3;");
        // Answers in 5, 8, 11, 14: those of 8 and 11 come when the sender is done, the last in 19.
        Check.results("timer", x, 20, 8, 1, 5, 3, 4, 3, 0);
        Check.sent("2nd", x, 1, 3, 0, 0, 8, -1);
        Check.sent("answer", x, 2, 5, 1, 0, 10, -1);
        Check.sent("3rd", x, 3, 6, 0, 0, 11, -1);
        Check.sent("last", x, 7, 14, 1, 0, 19, -1);
        // A lost answer: the item comes again, is not delivered again, but answered again.
        FaultBench y = Check.bench("bench alternate 2 40;timer 4;drop 1;");
        // d0 0, a0 1 (lost), d0 4, a0 5, d1 6, a1 7, done in 8.
        Check.results("lost answer", y, 9, 6, 2, 7, 1, 3, 5, 0);
        Check.delivers("lost answer", y, 0, 1);
        Check.sent("lost answer", y, 1, 1, 1, 0, -1, -1);
        Check.sent("item again", y, 2, 4, 0, 0, 5, -1);
        // A new present item is sent at once, whatever the timer says.
        FaultBench z = Check.bench("bench alternate 2 40;timer 20;");
        Check.results("at once", z, 5, 4, 2, 3, 0, 2, 5, 0);
    }

    private static void alternateWithLateTwins() {
        // Item 0 comes late, when 1 is expected: answered 0, which the sender ignores.
        FaultBench x = Check.bench("bench alternate 3 30;timer 3;late 0 5;");
        Check.results("ignored", x, 10, 8, 3, 8, 1, 4, 7, 0);
        Check.sent("ignored", x, 4, 6, 1, 0, 7, -1);
        Check.sent("not ignored", x, 5, 6, 1, 1, 7, -1);
        // Two ticks later 0 is expected again: item 0 is taken for item 2, which is lost.
        FaultBench y = Check.bench("bench alternate 3 30;timer 3;late 0 7;");
        Check.results("taken for another", y, 10, 8, 3, -1, 1, 4, 7, 15);
        Check.delivers("taken for another", y, 0, 1, 0);
        for (int promise = 0; promise < 4; promise++) {
            int p = promise;
            Check.due("breaks(" + p + ")", () -> y.breaks(p), true);
        }
        // d0 comes in 1 and 2; the second answer of 0 comes when 1 is present.
        FaultBench z = Check.bench("bench alternate 2 30;twice 0;");
        Check.results("twice", z, 5, 5, 2, 3, 0, 3, 5, 0);
        Check.sent("first answer", z, 1, 1, 1, 0, 2, -1);
        Check.sent("second answer", z, 2, 2, 1, 0, 3, -1);
        Check.sent("item 1", z, 3, 2, 0, 1, 3, -1);
        // The second answer of 0 comes when the sender is done, and 2 has the sign 0: it is ignored.
        z.addFault(2, 2, 5);
        Check.results("done", z, 9, 5, 2, 3, 0, 3, 5, 0);
        Check.due("done", () -> z.reaches(2, 2), true);
        Check.due("done", () -> z.reaches(3, 2), false);
    }

    private static void window() {
        FaultBench x = Check.bench("bench window 4 20;");
        Check.results("window", x, 6, 8, 4, 4, 0, 4, 6, 0);
        Check.delivers("window", x, 0, 1, 2, 3);
        Check.sent("data 1", x, 2, 1, 0, 1, 2, -1);
        Check.sent("answer 1", x, 1, 1, 1, 1, 2, -1);
        Check.sent("answer 4", x, 7, 4, 1, 0, 5, -1);
        Check.states("window", x, new int[][] {{0, 0}, {0, 1}, {1, 2}, {2, 3}, {3, 4}, {4, 4}});
        // One packet a tick, and no more than the window: 0 and 1, then the answers come in 6 and 7.
        FaultBench y = Check.bench("bench window 3 30;latency 3;");
        Check.results("slow", y, 13, 6, 3, 9, 0, 3, 7, 0);
        Check.sent("item 2", y, 3, 4, 1, 2, 7, -1);
        Check.sent("answer 1", y, 2, 3, 1, 1, 6, -1);
        Check.sent("item 2", y, 4, 6, 0, 2, 9, -1);
    }

    private static void windowGoesBack() {
        // Item 0 is lost: 1 and 2 are answered 0, which is no sign of a c; the timer of 0 ends in 5.
        FaultBench x = Check.bench("bench window 3 40;size 3 4;timer 5;drop 0;");
        // d0 0 x, d1 1, d2 2 (a 0), a 0 in 3; d0 5, d1 6 (a 1 in 6), d2 7 ..: done in 9.
        Check.results("goes back", x, 10, 11, 3, 8, 3, 5, 5, 0);
        Check.sent("answer to 1", x, 2, 2, 1, 0, 3, -1);
        Check.sent("again 0", x, 5, 5, 0, 0, 6, -1);
        Check.sent("again 1", x, 7, 6, 0, 1, 7, -1);
        Check.delivers("goes back", x, 0, 1, 2);
        // The lost answer of 0 is made up for by that of 1: base goes on by 2.
        FaultBench y = Check.bench("bench window 2 40;size 2 4;timer 5;drop 1;");
        // d0 0, a1 1 x, d1 1, a2 2, done in 3.
        Check.results("two at once", y, 4, 4, 2, 2, 0, 2, 4, 0);
        Check.due("two at once", () -> y.reaches(1, 2), false);
        Check.due("two at once", () -> y.reaches(2, 2), true);
        // An answer starts the timer anew: 1 was sent in 1, is lost, and comes again in 2 + 5.
        FaultBench z = Check.bench("bench window 2 40;timer 5;drop 2;");
        Check.results("timer anew", z, 10, 5, 2, 8, 1, 2, 5, 0);
        Check.sent("timer anew", z, 3, 7, 0, 1, 8, -1);
        // The answer comes in the tick in which the timer would end: it is handled first.
        FaultBench v = Check.bench("bench window 1 40;timer 2;");
        Check.results("just in time", v, 3, 2, 1, 1, 0, 1, 3, 0);
        FaultBench w = Check.bench("bench window 1 40;timer 1;");
        Check.results("too early", w, 4, 4, 1, 1, 1, 2, 3, 0);
    }

    private static void windowWithSmallModulus() {
        // Modulus 2, window 4: the least c is taken, so answer 3 (sign 1) counts as 1.
        FaultBench x = Check.bench("bench window 3 40;size 4 2;drop 1;drop 3;timer 20;");
        // d0 0, a1 1 x, d1 1, a2 (0) 2 x, d2 2, a3 (1) 3: base 1 in 4; then the timer from 4 on.
        Check.due("least c", () -> x.reaches(1, 3), true);
        Check.due("not 3", () -> x.reaches(3, 3), false);
        Check.sent("answer 3", x, 5, 3, 1, 1, 4, -1);
        // In 24 item 1 goes again (sign 1 is r = 3), and so is delivered once more.
        Check.sent("again", x, 6, 24, 0, 1, 25, -1);
        Check.due("again", () -> x.delivered(3), 1);
        Check.due("broken", () -> x.result(7), 6);
    }

    private static void lineIsFull() {
        // Each of the items 0 to 5 takes 10 ticks: 10 packets of data and 10 answers.
        FaultBench x = Check.bench("bench alternate 8 200;latency 5;timer 1;");
        Check.due("ticks", () -> x.result(0), 200);
        Check.due("transmissions", () -> x.result(1), 120);
        Check.sent("the last one", x, 119, 62, 1, 1, 67, -1);
        Check.sent("beyond", x, 120, -1, -1, -1, -1, -1);
        Check.delivers("full", x, 0, 1, 2, 3, 4, 5, 6);
        Check.due("broken", () -> x.result(7), 9);
        // The last number there is can be at fault: it is an answer to item 5 or 6 that is not needed.
        FaultBench y = Check.bench("bench alternate 8 200;latency 5;timer 1;late 119 20;twice 119;");
        Check.sent("the last one is late", y, 119, 62, 1, 1, 87, 88);
    }

    private static void statesAndBudget() {
        FaultBench x = Check.bench("bench plain 8 60;twice 0;twice 1;twice 2;twice 3;twice 4;twice 5;twice 6;twice 7;");
        Check.due("delivered", () -> x.result(2), 16);
        Check.due("at most 15", () -> x.reaches(8, 15), true);
        Check.due("no 16", () -> x.reaches(8, 16), false);
        // Behind the tick 0 nothing, 1 packet behind 1, then 2 more each tick: 13 behind 7; 15 behind 8 and 9.
        Check.due("states", () -> x.result(6), 9);
        FaultBench y = Check.bench("bench plain 3 10;budget 3;");
        Check.due("within the budget", () -> y.result(7), 0);
        y.set(7, 2);
        Check.due("beyond the budget", () -> y.result(7), 8);
        Check.due("in time", () -> y.breaks(3), true);
        Check.due("no loss", () -> y.breaks(0), false);
        // Nothing of one run stays for the next.
        FaultBench v = Check.bench("bench alternate 3 20;");
        Check.due("answers", () -> v.result(5), 3);
        Check.due("a state", () -> v.reaches(0, 1), true);
        v.set(0, 0);
        v.set(1, 1);
        Check.results("nothing stays", v, 2, 1, 1, 1, 0, 0, 2, 0);
        Check.delivers("nothing stays", v, 0);
        Check.states("nothing stays", v, new int[][] {{1, 0}, {1, 1}});
        // Each item first: item 0 comes twice, which does not matter for the time.
        FaultBench z = Check.bench("bench plain 1 10;budget 1;twice 0;");
        Check.due("double", () -> z.result(7), 2);
        Check.due("time", () -> z.result(3), 1);
    }

    private static void wrongInputs() {
        FaultBench x = Check.bench("bench alternate 2 20;");
        Check.raisesArgument("result(-1)", () -> x.result(-1));
        Check.raisesArgument("result(8)", () -> x.result(8));
        Check.raisesArgument("result of the least", () -> x.result(Integer.MIN_VALUE));
        Check.due("delivered(-1)", () -> x.delivered(-1), -1);
        Check.due("delivered(2)", () -> x.delivered(2), -1);
        Check.due("delivered of the greatest", () -> x.delivered(Integer.MAX_VALUE), -1);
        Check.due("delivered of the least", () -> x.delivered(Integer.MIN_VALUE), -1);
        Check.due("sent(-1, 0)", () -> x.sent(-1, 0), -1);
        Check.due("sent(4, 0)", () -> x.sent(4, 0), -1);
        Check.due("sent of the greatest", () -> x.sent(Integer.MAX_VALUE, 4), -1);
        Check.raisesArgument("sent(0, 5)", () -> x.sent(0, 5));
        Check.raisesArgument("sent(0, -1)", () -> x.sent(0, -1));
        Check.raisesArgument("sent(-1, 5)", () -> x.sent(-1, 5));
        Check.raisesArgument("breaks(-1)", () -> x.breaks(-1));
        Check.raisesArgument("breaks(4)", () -> x.breaks(4));
        Check.raisesArgument("breaks of the greatest", () -> x.breaks(Integer.MAX_VALUE));
        int[][] none = {{-1, 0}, {0, -1}, {9, 0}, {0, 16}, {0, 32}, {Integer.MIN_VALUE, 0}, {0, Integer.MIN_VALUE},
            {Integer.MAX_VALUE, 1}, {1, Integer.MAX_VALUE}};
        for (int[] pair : none) {
            Check.due("reaches " + pair[0] + " " + pair[1], () -> x.reaches(pair[0], pair[1]), false);
        }
        Check.due("size(9) behind questions", () -> x.size(9), 0);
    }
}
