/**
 * The boundary cases of THE LINE, A RUN, PROMISES, STATES and of the promises 7 to 11: a test of its own for each
 * sentence that names one.
 */
public final class RunBoundaryTest {
    private static final int LEAST = Integer.MIN_VALUE;
    private static final int GREATEST = Integer.MAX_VALUE;
    private static final int[] BEYOND = {-1, LEAST, LEAST + 1, GREATEST};

    public static void main(String[] args) {
        numberedTogether();
        latency();
        late();
        twice();
        drop();
        at120Transmissions();
        lostBeyond120();
        sentAllTheSame();
        fromTick0();
        lastTick();
        earlierEnd();
        notYetTheEnd();
        ascendingTransmissions();
        answersOneByOne();
        plainSends();
        plainReceives();
        alternateSends();
        alternateWaits();
        alternateGoesOn();
        alternateIgnores();
        alternateExpects();
        alternateAnswers();
        windowSigns();
        windowTimerEnds();
        windowIsFull();
        windowTimerStarts();
        windowTakesAnswers();
        windowTakesTheLeast();
        windowTakesNoGreater();
        windowTimerStartsByAnswers();
        windowIsDone();
        windowReceives();
        windowAnswers();
        noLoss();
        noDouble();
        order();
        inTime();
        atMost15();
        sendersNumber();
        completeTick();
        dataAgain();
        noAnswers();
        brokenBits();
        resultOutOfRange();
        notSoManyDelivered();
        partsOfTransmissions();
        wouldHaveArrived();
        notSoManySent();
        partOutOfRange();
        noSuchPromise();
        anyState();
        Check.finish("RunBoundaryTest");
    }

    // ---- THE LINE

    private static void numberedTogether() {
        Check.sentence("Each packet that is sent, by the sender (data) or by the receiver (an answer), is a transmission; "
                + "they are numbered in the order in which they are sent, together.");
        FaultBench x = Check.bench("bench alternate 2 20;");
        int[][] due = {{0, 0, 0}, {1, 1, 0}, {2, 0, 1}, {3, 1, 1}};
        for (int k = 0; k < 4; k++) {
            Check.sent("together", x, k, due[k]);
        }
        Check.due("four", () -> x.result(1), 4);
        Check.due("two of data", () -> x.result(1) - x.result(5), 2);
    }

    private static void latency() {
        Check.sentence("A packet that is sent in the tick t arrives in the tick t + latency.");
        for (int latency = 1; latency <= 5; latency++) {
            FaultBench x = Check.bench("bench alternate 1 200;timer 20;latency " + latency + ";");
            Check.sent("data", x, 0, 0, 0, 0, latency, -1);
            Check.sent("its answer", x, 1, latency, 1, 0, 2 * latency, -1);
            Check.results("latency", x, 2 * latency + 1, 2, 1, latency, 0, 1, 3, 0);
        }
    }

    private static void late() {
        Check.sentence("with a late one it arrives amount ticks later");
        for (int latency = 1; latency <= 5; latency += 4) {
            for (int amount = 1; amount <= 20; amount++) {
                FaultBench x = Check.bench("bench plain 1 200;latency " + latency + ";late 0 " + amount + ";");
                int tick = latency + amount;
                Check.sent("late by " + amount, x, 0, 0, 0, 0, tick, -1);
                Check.results("late by " + amount, x, tick + 1, 1, 1, tick, 0, 0, 2, 0);
            }
        }
        // Of another transmission: nothing changes.
        Check.results("late 1", Check.bench("bench plain 1 200;late 1 20;"), 2, 1, 1, 1, 0, 0, 2, 0);
    }

    private static void twice() {
        Check.sentence("with a twice one it arrives once more, in the tick behind that in which it arrives first");
        FaultBench x = Check.bench("bench plain 1 200;twice 0;");
        Check.sent("twice", x, 0, 0, 0, 0, 1, 2);
        Check.results("twice", x, 3, 1, 2, 1, 0, 0, 3, 2);
        FaultBench y = Check.bench("bench plain 1 200;latency 5;twice 0;late 0 20;");
        Check.sent("late and twice", y, 0, 0, 0, 0, 25, 26);
        Check.results("late and twice", y, 27, 1, 2, 25, 0, 0, 3, 2);
        // An answer comes twice too, and is one transmission.
        FaultBench z = Check.bench("bench alternate 1 20;twice 1;");
        Check.sent("an answer", z, 1, 1, 1, 0, 2, 3);
        Check.results("an answer", z, 4, 2, 1, 1, 0, 1, 3, 0);
    }

    private static void drop() {
        Check.sentence("with a drop it does not arrive at all, whatever the others say.");
        for (String others : new String[] {"", "twice 0;", "late 0 1;", "late 0 20;twice 0;"}) {
            FaultBench x = Check.bench("bench plain 1 10;" + others + "drop 0;");
            Check.sent("drop " + others, x, 0, 0, 0, 0, -1, -1);
            Check.results("drop " + others, x, 1, 1, 0, -1, 0, 0, 1, 9);
        }
        FaultBench y = Check.bench("bench alternate 1 10;timer 20;late 1 2;drop 1;twice 1;");
        Check.sent("an answer", y, 1, 1, 1, 0, -1, -1);
        Check.results("an answer", y, 10, 2, 1, 1, 0, 1, 2, 0);
    }

    private static void at120Transmissions() {
        Check.sentence("There are at most 120 transmissions");
        // Each item takes ten packets of data and ten answers. With six items that is 120, with one dropped 119.
        FaultBench y = Check.bench("bench alternate 6 200;latency 5;timer 1;budget 55;");
        Check.results("120", y, 70, 120, 6, 55, 54, 60, 13, 0);
        Check.sent("the last of 120", y, 119, 64, 1, 1, 69, -1);
        y.addFault(0, 1, 0);
        Check.results("119", y, 70, 119, 6, 55, 54, 59, 13, 0);
        Check.sent("no 120th", y, 119, -1, -1, -1, -1, -1);
        // One more answer: it is the last one of 121, which is lost.
        y.clearFaults();
        y.addFault(1, 0, 0);
        Check.results("121", y, 69, 120, 6, 55, 54, 60, 13, 0);
        Check.sent("the last of 121", y, 119, 63, 1, 1, 68, -1);

        FaultBench x = Check.bench("bench alternate 8 200;latency 5;timer 1;");
        Check.due("transmissions", () -> x.result(1), 120);
        Check.sent("the last", x, 119, 62, 1, 1, 67, -1);
        Check.sent("beyond", x, 120, -1, -1, -1, -1, -1);
        // The last one that has a number can have a fault of each kind.
        x.addFault(1, 119, 0);
        Check.sent("the last twice", x, 119, 62, 1, 1, 67, 68);
        x.addFault(2, 119, 20);
        Check.sent("the last late", x, 119, 62, 1, 1, 87, 88);
        x.addFault(0, 119, 0);
        Check.sent("the last dropped", x, 119, 62, 1, 1, -1, -1);
        Check.due("transmissions", () -> x.result(1), 120);
    }

    private static void lostBeyond120() {
        Check.sentence("packets beyond are lost and have no numbers");
        FaultBench x = Check.bench("bench alternate 8 200;latency 5;timer 1;");
        // Item 6 goes in 60 and 61 before the line is full in 62; its answers and item 7 are lost.
        Check.delivers("the others", x, 0, 1, 2, 3, 4, 5, 6);
        Check.results("full", x, 200, 120, 7, -1);
        Check.due("data and answers", () -> x.result(5) + 7 + x.result(4), 120);
        Check.due("the sender waits for the answer of item 6", () -> x.reaches(6, 7), true);
        Check.due("the sender waits for the answer of item 6", () -> x.reaches(7, 7), false);
        Check.sent("no number", x, 120, -1, -1, -1, -1, -1);
    }

    private static void sentAllTheSame() {
        Check.sentence("(for the sender they are sent all the same)");
        // The last number, 119, is an answer of the tick 62; from then on item 7 is sent in vain. In 64 its answer
        // comes, of an earlier packet: it counts, as base is 7 and next, by the packet that was lost in 63, is 8.
        FaultBench x = Check.bench("bench window 8 200;latency 4;timer 1;size 4 7;drop 65;");
        Check.sent("the last data", x, 118, 61, 0, 7, 65, -1);
        Check.sent("the last answer", x, 119, 62, 1, 1, 66, -1);
        Check.sent("the first answer of item 7", x, 115, 60, 1, 1, 64, -1);
        Check.results("done", x, 67, 120, 8, 60, 54, 58, 17, 8);
        Check.due("done", () -> x.reaches(8, 8), true);
    }

    // ---- A RUN

    private static void fromTick0() {
        Check.sentence("A RUN goes through ticks, from the tick 0 on.");
        for (String protocol : new String[] {"plain", "alternate", "window"}) {
            FaultBench x = Check.bench("bench " + protocol + " 1 10;");
            Check.sent(protocol, x, 0, 0, 0, 0, 1, -1);
        }
        // One tick is the shortest run: nothing is under way behind it.
        Check.results("one tick", Check.bench("bench plain 1 200;drop 0;"), 1, 1, 0, -1, 0, 0, 1, 9);
    }

    private static void lastTick() {
        Check.sentence("The run ends behind the tick ticks - 1");
        for (int ticks = 10; ticks <= 21; ticks++) {
            FaultBench x = Check.bench("bench plain 1 " + ticks + ";late 0 " + (ticks - 2) + ";");
            Check.results("in the last tick", x, ticks, 1, 1, ticks - 1, 0, 0, 2, 0);
            FaultBench y = Check.bench("bench plain 1 " + ticks + ";late 0 " + (ticks - 1) + ";");
            Check.results("a tick too late", y, ticks, 1, 0, -1, 0, 0, 1, 9);
        }
        FaultBench z = Check.bench("bench alternate 1 10;timer 20;drop 0;");
        Check.results("10 ticks", z, 10, 1, 0, -1, 0, 0, 1, 9);
        z.set(2, 200);
        z.addFault(0, 1, 0);
        // Sent in 0, 20 and 40; the third one arrives in 41, its answer in 42.
        Check.results("43 of 200 ticks", z, 43, 4, 1, 41, 2, 1, 3, 0);
        for (int number = 2; number < 10; number++) {
            z.addFault(0, number, 0);
        }
        Check.results("200 ticks", z, 200, 10, 0, -1, 9, 0, 1, 9);
    }

    private static void earlierEnd() {
        Check.sentence("or behind an earlier one behind which the sender is done and no packet is still to arrive.");
        Check.results("drop", Check.bench("bench plain 2 10;drop 1;"), 2, 2, 1, -1, 0, 0, 2, 9);
        Check.results("both", Check.bench("bench plain 2 10;drop 0;drop 1;"), 2, 2, 0, -1, 0, 0, 2, 9);
        Check.results("the last", Check.bench("bench plain 3 10;drop 2;"), 3, 3, 2, -1, 0, 0, 3, 9);
        Check.results("plain", Check.bench("bench plain 8 10;"), 9, 8, 8, 8, 0, 0, 9, 0);
        Check.results("just the last tick", Check.bench("bench plain 8 10;latency 2;"), 10, 8, 8, 9, 0, 0, 10, 0);
        Check.results("alternate", Check.bench("bench alternate 1 10;"), 3, 2, 1, 1, 0, 1, 3, 0);
        Check.results("window", Check.bench("bench window 1 10;"), 3, 2, 1, 1, 0, 1, 3, 0);
    }

    private static void notYetTheEnd() {
        Check.sentence("behind which the sender is done and no packet is still to arrive (only one of both)");
        // The sender is done in 2, the answer comes again in 3, or much later.
        Check.results("twice", Check.bench("bench alternate 1 40;twice 1;"), 4, 2, 1, 1, 0, 1, 3, 0);
        Check.results("twice", Check.bench("bench plain 1 40;twice 0;"), 3, 1, 2, 1, 0, 0, 3, 2);
        // Item 0 late: sent again in 8, answered in 9, done in 10; the late one comes in 21, its answer in 22.
        FaultBench x = Check.bench("bench alternate 1 40;late 0 20;");
        Check.results("late", x, 23, 4, 1, 9, 1, 2, 3, 0);
        // Nothing is under way from the tick 0 to 8, but the sender is not done.
        Check.results("waits", Check.bench("bench alternate 1 40;drop 0;"), 11, 3, 1, 9, 1, 1, 3, 0);
        Check.results("waits", Check.bench("bench window 1 40;drop 0;"), 11, 3, 1, 9, 1, 1, 3, 0);
        // A packet that would arrive behind the last tick keeps the run going up to it.
        Check.results("never arrives", Check.bench("bench plain 1 10;late 0 20;"), 10, 1, 0, -1, 0, 0, 1, 9);
        Check.results("again, never", Check.bench("bench plain 1 10;late 0 8;twice 0;"), 10, 1, 1, 9, 0, 0, 2, 0);
    }

    private static void ascendingTransmissions() {
        Check.sentence("The packets that arrive in this tick are handled, by ascending transmissions (a packet that arrives "
                + "for the second time like any other).");
        // 0 in 1 and 2, 1 in 2.
        Check.delivers("second of 0 ahead of 1", Check.bench("bench plain 2 20;twice 0;"), 0, 0, 1);
        // 0 in 2, 1 in 2.
        Check.delivers("late 0 ahead of 1", Check.bench("bench plain 2 20;late 0 1;"), 0, 1);
        // 0 in 2 and 3, 1 in 2, 2 in 3.
        Check.delivers("second of late 0", Check.bench("bench plain 3 20;late 0 1;twice 0;"), 0, 1, 0, 2);
        // 0 in 7 and 8, 1 in 7 and 8, .. up to 4: all in 7, all again in 8.
        FaultBench x = Check.bench("bench plain 5 40;latency 3;late 0 4;late 1 3;late 2 2;late 3 1;twice 0;twice 1;twice 2;"
                + "twice 3;twice 4;");
        Check.delivers("all in a tick", x, 0, 1, 2, 3, 4, 0, 1, 2, 3, 4);
        Check.results("all in a tick", x, 9, 5, 10, 7, 0, 0, 7, 6);
    }

    private static void answersOneByOne() {
        Check.sentence("The answers that are caused by packets in the first part of a tick are sent there, one by one.");
        // Items 0 and 1 both arrive in 2: two answers, by ascending transmissions.
        FaultBench x = Check.bench("bench window 2 20;late 0 1;");
        Check.sent("first", x, 2, 2, 1, 1, 3, -1);
        Check.sent("second", x, 3, 2, 1, 2, 3, -1);
        // In the tick 1 the answer is sent ahead of the sender's item 1.
        FaultBench y = Check.bench("bench window 2 20;");
        Check.sent("the answer", y, 1, 1, 1, 1, 2, -1);
        Check.sent("then data", y, 2, 1, 0, 1, 2, -1);
        // They take their numbers before the sender does: drop 1 is the answer's.
        FaultBench z = Check.bench("bench window 2 20;drop 1;");
        Check.sent("the answer", z, 1, 1, 1, 1, -1, -1);
    }

    private static void plainSends() {
        Check.sentence("plain: in each tick the sender sends the next item, until all are sent; then it is done.");
        for (int items = 1; items <= 8; items++) {
            FaultBench x = Check.bench("bench plain " + items + " 200;");
            for (int k = 0; k < items; k++) {
                Check.sent("item " + k, x, k, k, 0, k, k + 1, -1);
            }
            Check.results("plain", x, items + 1, items, items, items, 0, 0, items + 1, 0);
        }
    }

    private static void plainReceives() {
        Check.sentence("The receiver delivers the item of each data packet that arrives, and answers nothing. There is no "
                + "timer.");
        FaultBench x = Check.bench("bench plain 8 60;twice 0;twice 1;twice 2;twice 3;twice 4;twice 5;twice 6;twice 7;");
        for (int timer = 1; timer <= 20; timer++) {
            x.set(4, timer);
            Check.results("each", x, 10, 8, 16, 8, 0, 0, 9, 2);
        }
        Check.delivers("each", x, 0, 0, 1, 1, 2, 2, 3, 3, 4, 4, 5, 5, 6, 6, 7, 7);
    }

    private static void alternateSends() {
        Check.sentence("It sends it in a tick if it was not sent since it is the present one");
        for (int timer = 1; timer <= 20; timer++) {
            // The answer comes in 2, and item 1 goes in 2; with a timer of 1 behind item 0 again in 1 and its answer in 2.
            FaultBench x = Check.bench("bench alternate 2 40;timer " + timer + ";");
            int number = timer == 1 ? 4 : 2;
            Check.sent("at once, timer " + timer, x, number, 2, 0, 1, 3, -1);
        }
    }

    private static void alternateWaits() {
        Check.sentence("or if at least timer ticks have passed since it was sent last.");
        for (int timer = 1; timer <= 20; timer++) {
            FaultBench x = Check.bench("bench alternate 1 200;latency 5;drop 0;drop 1;drop 2;timer " + timer + ";");
            for (int k = 0; k < 4; k++) {
                int arrival = k < 3 ? -1 : 3 * timer + 5;
                Check.sent("again " + k + ", timer " + timer, x, k, k * timer, 0, 0, arrival, -1);
            }
        }
        // The answer comes in 10: with a timer of 10 it is handled first.
        Check.due("timer 10", () -> Check.bench("bench alternate 1 40;latency 5;timer 10;").result(4), 0);
        Check.due("timer 9", () -> Check.bench("bench alternate 1 40;latency 5;timer 9;").result(4), 1);
        // It counts from the last time: 0, 4, 8, not from the first.
        FaultBench y = Check.bench("bench alternate 1 40;timer 4;drop 0;drop 1;");
        Check.sent("the third", y, 2, 8, 0, 0, 9, -1);
        Check.results("three times", y, 11, 4, 1, 9, 2, 1, 3, 0);
    }

    private static void alternateGoesOn() {
        Check.sentence("When an answer arrives whose sign is that of the present item, the next item becomes the present one; "
                + "behind the last item the sender is done.");
        for (int items = 1; items <= 8; items++) {
            FaultBench x = Check.bench("bench alternate " + items + " 40;");
            Check.results("alternate", x, 2 * items + 1, 2 * items, items, 2 * items - 1, 0, items, 2 * items + 1, 0);
            for (int k = 0; k < items; k++) {
                Check.sent("item " + k, x, 2 * k, 2 * k, 0, k, 2 * k + 1, -1);
                Check.sent("its answer", x, 2 * k + 1, 2 * k + 1, 1, k % 2, 2 * k + 2, -1);
            }
            int all = items;
            Check.due("done", () -> x.reaches(all, all), true);
        }
    }

    private static void alternateIgnores() {
        Check.sentence("Other answers are ignored.");
        // Item 0 comes in 1 and 2; its second answer comes in 3, when item 1 is the present one.
        FaultBench x = Check.bench("bench alternate 2 30;twice 0;");
        Check.states("of another sign", x, Check.s(0, 0), Check.s(0, 1), Check.s(1, 1), Check.s(1, 2), Check.s(2, 2));
        // The second answer comes late, in 8: the sender is done, though item 2 would have the sign 0.
        FaultBench y = Check.bench("bench alternate 2 30;twice 0;late 2 5;");
        Check.results("done", y, 9, 5, 2, 3, 0, 3, 5, 0);
        Check.states("done", y, Check.s(0, 0), Check.s(0, 1), Check.s(1, 1), Check.s(1, 2), Check.s(2, 2));
        // With 8 items too: there is no item behind the last.
        FaultBench z = Check.bench("bench alternate 8 60;twice 13;");
        Check.results("8 items", z, 17, 16, 8, 15, 0, 8, 17, 0);
        Check.due("8 items", () -> z.reaches(9, 8), false);
    }

    private static void alternateExpects() {
        Check.sentence("The receiver expects a sign (at first 0). If the sign of a data packet is that, it delivers the item, "
                + "and expects the other sign from then on.");
        // The second packet of item 0 has the sign 0, but 1 is expected.
        Check.delivers("twice", Check.bench("bench alternate 3 30;twice 0;twice 3;"), 0, 1, 2);
        // Item 0, late by 7, comes in 8 ahead of item 2: 0 is expected again.
        FaultBench x = Check.bench("bench alternate 3 30;timer 3;late 0 7;");
        Check.delivers("around once", x, 0, 1, 0);
        Check.results("around once", x, 10, 8, 3, -1, 1, 4, 7, 15);
        // A tick later item 2 comes first, and 1 is expected.
        FaultBench y = Check.bench("bench alternate 3 30;timer 3;late 0 8;");
        Check.delivers("too late", y, 0, 1, 2);
        Check.due("too late", () -> y.result(7), 0);
    }

    private static void alternateAnswers() {
        Check.sentence("To each data packet it answers with the sign of that packet.");
        FaultBench x = Check.bench("bench alternate 2 30;twice 0;timer 20;");
        Check.sent("the first", x, 1, 1, 1, 0, 2, -1);
        Check.sent("the second", x, 2, 2, 1, 0, 3, -1);
        Check.due("three answers", () -> x.result(5), 3);
        // Also when it was not delivered: 0, late by 5, comes in 6 when 1 is expected no more but 0.
        FaultBench y = Check.bench("bench alternate 3 30;timer 3;late 0 5;");
        Check.sent("not delivered", y, 4, 6, 1, 0, 7, -1);
        Check.delivers("not delivered", y, 0, 1, 2);
    }

    private static void windowSigns() {
        Check.sentence("window: .. A data packet has a sign, its item modulo modulus.");
        for (int modulus = 2; modulus <= 8; modulus++) {
            FaultBench x = Check.bench("bench window 8 60;size 1 " + modulus + ";");
            for (int k = 0; k < 8; k++) {
                Check.sent("item " + k, x, 2 * k, 2 * k, 0, k, 2 * k + 1, -1);
                Check.sent("its answer", x, 2 * k + 1, 2 * k + 1, 1, (k + 1) % modulus, 2 * k + 2, -1);
            }
            Check.results("modulus " + modulus, x, 17, 16, 8, 15, 0, 8, 17, 0);
            Check.delivers("modulus " + modulus, x, 0, 1, 2, 3, 4, 5, 6, 7);
        }
    }

    private static void windowTimerEnds() {
        Check.sentence("if base is less than next and at least timer ticks have passed since the timer was started, the timer "
                + "is started anew and next becomes base.");
        for (int timer = 1; timer <= 20; timer++) {
            FaultBench x = Check.bench("bench window 1 200;latency 5;drop 0;drop 1;drop 2;timer " + timer + ";");
            for (int k = 0; k < 4; k++) {
                int arrival = k < 3 ? -1 : 3 * timer + 5;
                Check.sent("again " + k + ", timer " + timer, x, k, k * timer, 0, 0, arrival, -1);
            }
        }
        // The answer comes in 10: with a timer of 10 it is handled first.
        Check.due("timer 10", () -> Check.bench("bench window 1 40;latency 5;timer 10;").result(4), 0);
        Check.due("timer 9", () -> Check.bench("bench window 1 40;latency 5;timer 9;").result(4), 1);
        // All four go again, one a tick: item 0 in 20, items 1 to 3 from 21 on.
        FaultBench y = Check.bench("bench window 4 60;size 4 8;timer 20;drop 0;");
        Check.results("all four", y, 26, 15, 4, 24, 4, 7, 6, 0);
        Check.sent("item 0", y, 7, 20, 0, 0, 21, -1);
        Check.sent("item 1", y, 9, 21, 0, 1, 22, -1);
        Check.sent("item 3", y, 13, 23, 0, 3, 24, -1);
        // d0 0, a 1 that comes in 5 and 6; d0 2, a 3 that comes in 4: then base is next, and nothing goes again.
        Check.results("base is next", Check.bench("bench window 1 40;timer 2;late 1 3;twice 1;"), 7, 4, 1, 1, 1, 2, 3, 0);
    }

    private static void windowIsFull() {
        Check.sentence("if next is less than base + window and less than items, the item next is sent");
        for (int window = 1; window <= 4; window++) {
            // The first answer is sent in 5 and comes in 10: until then window items go, one a tick.
            FaultBench x = Check.bench("bench window 8 200;latency 5;timer 20;size " + window + " 8;");
            for (int k = 0; k < window; k++) {
                Check.sent("item " + k, x, k, k, 0, k, k + 5, -1);
            }
            Check.sent("the first answer", x, window, 5, 1, 1, 10, -1);
            Check.sent("the item behind", x, 2 * window, 10, 0, window, 15, -1);
        }
        // Fewer items than the window.
        for (int items = 1; items <= 3; items++) {
            FaultBench y = Check.bench("bench window " + items + " 200;latency 5;timer 20;size 4 8;");
            Check.results("all items", y, items + 10, 2 * items, items, items + 4, 0, items, 2 * items + 1, 0);
        }
    }

    private static void windowTimerStarts() {
        Check.sentence("if base was equal to next before, the timer is started.");
        // The timer runs from item 0 in 0 on, not from item 1 in 1.
        FaultBench x = Check.bench("bench window 2 40;timer 5;drop 0;drop 1;");
        Check.sent("item 1", x, 1, 1, 0, 1, -1, -1);
        Check.sent("item 0 again", x, 2, 5, 0, 0, 6, -1);
        // d0 5, a 6, d1 6, a 7: done in 8.
        Check.results("again", x, 9, 6, 2, 7, 2, 2, 4, 0);
        // Behind the answer of item 0, in 2, item 1 goes: the timer runs from 2 on.
        FaultBench y = Check.bench("bench window 2 40;size 1 4;timer 5;drop 2;");
        Check.sent("item 1", y, 2, 2, 0, 1, -1, -1);
        Check.sent("item 1 again", y, 3, 7, 0, 1, 8, -1);
    }

    private static void windowTakesAnswers() {
        Check.sentence("there is a number c, 1 to next - base, for which (base + c) modulo modulus is a (the greatest c)");
        // All answers but the last one are lost: it takes all four items.
        FaultBench x = Check.bench("bench window 4 40;size 4 5;timer 20;drop 1;drop 3;drop 5;");
        Check.sent("answer 4", x, 7, 4, 1, 4, 5, -1);
        Check.states("four at once", x, Check.s(0, 0), Check.s(0, 1), Check.s(0, 2), Check.s(0, 3), Check.s(0, 4),
                Check.s(4, 4));
        // Modulus 4: the answer 4 has the sign 0, as base has; with c = 4 it is taken all the same.
        x.set(6, 4);
        Check.sent("answer 4", x, 7, 4, 1, 0, 5, -1);
        Check.due("around", () -> x.reaches(4, 4), true);
        Check.due("around", () -> x.result(0), 6);
        // Item 0 is lost, so item 1 is answered with 0: with a modulus of 2 that is c = 2.
        FaultBench y = Check.bench("bench window 2 20;size 2 2;drop 0;");
        Check.results("around", y, 4, 3, 0, -1, 0, 1, 2, 9);
        Check.states("around", y, Check.s(0, 0), Check.s(2, 0));
        // With a modulus of 3 it would be c = 3, which is more than next - base.
        y.set(6, 3);
        Check.states("not around", y, Check.s(0, 0), Check.s(0, 1), Check.s(1, 2), Check.s(2, 2));
    }

    private static void windowTakesTheLeast() {
        Check.sentence("base becomes greater by the least such c");
        // Answers 1 and 2 are lost; answer 3 has the sign 1 by a modulus of 2, and is taken for 1.
        FaultBench x = Check.bench("bench window 3 40;size 4 2;timer 20;drop 1;drop 3;");
        Check.sent("answer 3", x, 5, 3, 1, 1, 4, -1);
        Check.due("1", () -> x.reaches(1, 3), true);
        Check.due("not 3", () -> x.reaches(3, 3), false);
        // By a modulus of 3 it has the sign 0: c = 3 alone.
        x.set(6, 3);
        Check.due("3", () -> x.reaches(3, 3), true);
        Check.due("not 1", () -> x.reaches(1, 3), false);
        // Modulus 2 and answer 4: c = 2 and c = 4 are such, 2 is taken.
        FaultBench y = Check.bench("bench window 4 10;size 4 2;timer 20;drop 1;drop 3;drop 5;");
        Check.sent("answer 4", y, 7, 4, 1, 0, 5, -1);
        Check.states("2", y, Check.s(0, 0), Check.s(0, 1), Check.s(0, 2), Check.s(0, 3), Check.s(0, 4), Check.s(2, 4));
    }

    private static void windowTakesNoGreater() {
        Check.sentence("there is a number c, 1 to next - base (a c that is greater)");
        // Answers 1 and 2 are lost. In 7 the timer ends, next is 0, and item 0 goes again; in 8 answer 3 comes, but next is
        // 1. Items 1 and 2 go again in 8 and 9; item 0 is answered with 3 in 10, which comes in 13: done.
        FaultBench x = Check.bench("bench window 3 40;latency 3;size 3 8;timer 7;drop 3;drop 4;");
        Check.sent("answer 3", x, 5, 5, 1, 3, 8, -1);
        Check.sent("item 0 again", x, 6, 7, 0, 0, 10, -1);
        Check.sent("answer 3 again", x, 9, 10, 1, 3, 13, -1);
        Check.results("answer 3 twice", x, 16, 12, 3, 5, 3, 6, 5, 0);
        Check.states("answer 3 twice", x, Check.s(0, 0), Check.s(0, 1), Check.s(0, 2), Check.s(0, 3), Check.s(3, 3));
        // c = 0 is none: item 1 is answered with 0, and base stays.
        FaultBench y = Check.bench("bench window 2 40;size 2 8;timer 20;drop 0;");
        Check.sent("answer 0", y, 2, 2, 1, 0, 3, -1);
        Check.due("item 0 goes again in 20", () -> y.sent(3, 0), 20);
    }

    private static void windowTimerStartsByAnswers() {
        Check.sentence("base becomes greater by the least such c, and the timer is started.");
        // Item 0 is answered in 2; item 1, sent in 1, is lost and goes again 5 ticks behind the answer.
        FaultBench x = Check.bench("bench window 2 40;timer 5;drop 2;");
        Check.sent("item 1 again", x, 3, 7, 0, 1, 8, -1);
        // An answer that is ignored does not start it: item 1 is answered with 0, which comes in 3.
        FaultBench y = Check.bench("bench window 2 40;timer 5;drop 0;size 2 8;");
        Check.sent("item 0 again", y, 3, 5, 0, 0, 6, -1);
    }

    private static void windowIsDone() {
        Check.sentence("When base is items, the sender is done.");
        for (int items = 1; items <= 8; items++) {
            FaultBench x = Check.bench("bench window " + items + " 60;size 4 8;");
            // One item a tick, and each answer two ticks behind its item.
            Check.results("window", x, items + 2, 2 * items, items, items, 0, items, items + 2, 0);
            int all = items;
            Check.due("done", () -> x.reaches(all, all), true);
        }
    }

    private static void windowReceives() {
        Check.sentence("The receiver has a number r (at first 0). If the sign of a data packet is r modulo modulus, it "
                + "delivers the item of the packet, and r becomes greater by 1.");
        // Item 0, late by 7, comes in 8 when r is 2: its sign is 2 modulo 2, but not 2 modulo 3.
        FaultBench x = Check.bench("bench window 3 40;size 1 2;timer 3;late 0 7;");
        Check.delivers("modulus 2", x, 0, 1, 0);
        Check.results("modulus 2", x, 10, 8, 3, -1, 1, 4, 7, 15);
        Check.states("modulus 2", x, Check.s(0, 0), Check.s(0, 1), Check.s(1, 1), Check.s(1, 2), Check.s(2, 2),
                Check.s(2, 3), Check.s(3, 3));
        x.set(6, 3);
        Check.delivers("modulus 3", x, 0, 1, 2);
        Check.due("modulus 3", () -> x.result(7), 0);
        // Ahead of its turn: item 1 is not delivered while r is 0, and not kept.
        FaultBench y = Check.bench("bench window 2 40;size 2 8;timer 4;drop 0;");
        Check.delivers("ahead of its turn", y, 0, 1);
        Check.due("ahead of its turn", () -> y.result(3), 6);
    }

    private static void windowAnswers() {
        Check.sentence("To each data packet it answers with the sign r modulo modulus.");
        // r counts the packet that is answered: 1 for item 0. Not delivered, item 1 is answered with 0 for r = 0.
        Check.sent("delivered", Check.bench("bench window 1 40;"), 1, 1, 1, 1, 2, -1);
        Check.sent("not delivered", Check.bench("bench window 2 40;drop 0;"), 2, 2, 1, 0, 3, -1);
        // The second packet of item 0 is answered with 1 once more.
        FaultBench x = Check.bench("bench window 1 40;twice 0;");
        Check.sent("again", x, 2, 2, 1, 1, 3, -1);
        Check.delivers("again", x, 0);
        // Item 7 of 8 brings r to 8: the signs 0, 2, 1 by the moduli 8, 6, 7.
        FaultBench y = Check.bench("bench window 8 60;size 1 8;");
        int[][] due = {{8, 0}, {7, 1}, {6, 2}, {5, 3}, {4, 0}, {3, 2}, {2, 0}};
        for (int[] pair : due) {
            y.set(6, pair[0]);
            Check.due("r = 8 by " + pair[0], () -> y.sent(15, 2), pair[1]);
        }
    }

    // ---- PROMISES

    private static void noLoss() {
        Check.sentence("0, no loss: each item was delivered in the run.");
        Check.due("all", () -> Check.bench("bench plain 8 20;").breaks(0), false);
        for (int k = 0; k < 8; k++) {
            FaultBench x = Check.bench("bench plain 8 20;drop " + k + ";");
            Check.due("without item " + k, () -> x.breaks(0), true);
        }
        Check.due("none", () -> Check.bench("bench plain 1 20;drop 0;").breaks(0), true);
        Check.due("in the last tick", () -> Check.bench("bench plain 1 10;late 0 8;").breaks(0), false);
        Check.due("behind it", () -> Check.bench("bench plain 1 10;late 0 9;").breaks(0), true);
        // Eight deliveries, but not of each item.
        FaultBench y = Check.bench("bench plain 8 20;twice 0;drop 7;");
        Check.due("as many as items", () -> y.result(2), 8);
        Check.due("as many as items", () -> y.breaks(0), true);
    }

    private static void noDouble() {
        Check.sentence("1, no double: no item was delivered more than once.");
        for (int k = 0; k < 8; k++) {
            FaultBench x = Check.bench("bench plain 8 20;twice " + k + ";");
            Check.due("item " + k + " twice", () -> x.breaks(1), true);
            FaultBench y = Check.bench("bench plain 8 20;twice " + k + ";drop " + k + ";");
            Check.due("item " + k + " never", () -> y.breaks(1), false);
        }
        Check.due("each once", () -> Check.bench("bench plain 8 20;").breaks(1), false);
        Check.due("nothing", () -> Check.bench("bench plain 1 20;drop 0;").breaks(1), false);
        // The second time falls behind the last tick.
        Check.due("once", () -> Check.bench("bench plain 1 10;late 0 8;twice 0;").breaks(1), false);
        Check.due("twice", () -> Check.bench("bench plain 1 10;late 0 7;twice 0;").breaks(1), true);
        // It arrives twice, but is delivered once.
        Check.due("alternate", () -> Check.bench("bench alternate 2 20;twice 0;").breaks(1), false);
    }

    private static void order() {
        Check.sentence("2, order: no item was delivered behind a greater one.");
        Check.due("ascending", () -> Check.bench("bench plain 8 20;").breaks(2), false);
        Check.due("equal", () -> Check.bench("bench plain 1 20;twice 0;").breaks(2), false);
        Check.due("with a gap", () -> Check.bench("bench plain 8 20;drop 3;").breaks(2), false);
        Check.due("nothing", () -> Check.bench("bench plain 1 20;drop 0;").breaks(2), false);
        // In the same tick the lower one is first; a tick later it is behind.
        Check.due("0 1", () -> Check.bench("bench plain 2 20;late 0 1;").breaks(2), false);
        Check.due("1 0", () -> Check.bench("bench plain 2 20;late 0 2;").breaks(2), true);
        // Behind a greater one, not at once, and behind one that is greater by 7.
        FaultBench x = Check.bench("bench plain 4 40;late 0 20;late 3 20;late 1 1;");
        Check.delivers("0 behind 2", x, 1, 2, 0, 3);
        Check.due("0 behind 2", () -> x.breaks(2), true);
        FaultBench y = Check.bench("bench plain 8 40;late 0 9;");
        Check.due("0 behind 7", () -> y.delivered(7), 0);
        Check.due("0 behind 7", () -> y.breaks(2), true);
        // The second time counts too.
        FaultBench z = Check.bench("bench plain 3 40;twice 0;late 0 1;");
        Check.delivers("0 1 0 2", z, 0, 1, 0, 2);
        Check.due("0 1 0 2", () -> z.breaks(2), true);
    }

    private static void inTime() {
        Check.sentence("3, in time: each item was delivered, and the tick in which this was so first is at most budget.");
        FaultBench x = Check.bench("bench plain 1 200;");
        for (int budget = 1; budget <= 30; budget++) {
            x.clearFaults();
            if (budget > 1 && budget <= 21) {
                x.addFault(2, 0, budget - 1);
            }
            x.set(7, budget);
            Check.due("just in the budget " + budget, () -> x.breaks(3), false);
        }
        for (int budget = 1; budget <= 20; budget++) {
            x.clearFaults();
            x.addFault(2, 0, budget);
            x.set(7, budget);
            Check.due("a tick behind the budget " + budget, () -> x.breaks(3), true);
            Check.due("but no loss", () -> x.breaks(0), false);
        }
        // Never delivered, whatever the budget.
        FaultBench y = Check.bench("bench plain 1 10;drop 0;budget 200;");
        Check.due("never", () -> y.breaks(3), true);
        // The first time counts; the run goes on up to 22.
        FaultBench z = Check.bench("bench alternate 1 40;late 0 20;budget 9;");
        Check.results("first", z, 23, 4, 1, 9);
        Check.due("first", () -> z.breaks(3), false);
        // The least and the greatest budget.
        FaultBench v = Check.bench("bench alternate 1 200;timer 20;drop 0;drop 1;drop 2;drop 3;drop 4;drop 5;drop 6;drop 7;"
                + "drop 8;budget 200;");
        // Sent in 180 for the tenth time.
        Check.due("180 + 1", () -> v.result(3), 181);
        Check.due("in 200", () -> v.breaks(3), false);
        v.set(7, 181);
        Check.due("in 181", () -> v.breaks(3), false);
        v.set(7, 180);
        Check.due("not in 180", () -> v.breaks(3), true);
        Check.due("in 1", () -> Check.bench("bench plain 1 10;budget 1;").breaks(3), false);
        Check.due("not in 1", () -> Check.bench("bench plain 2 10;budget 1;").breaks(3), true);
    }

    // ---- STATES

    private static void atMost15() {
        Check.sentence("the number of packets that were delivered, at most 15.");
        // All 8 are sent behind the tick 7: with 5 that come twice 12 are delivered then, and 13 behind 8.
        int[][] due = {{12, 13}, {13, 14}, {13, 15}, {13, 15}};
        for (int twice = 5; twice <= 8; twice++) {
            FaultBench x = Check.bench("bench plain 8 60;");
            for (int k = 0; k < twice; k++) {
                x.addFault(1, k, 0);
            }
            int all = 8 + twice;
            int[] pair = due[twice - 5];
            Check.due("delivered", () -> x.result(2), all);
            for (int received = 11; received <= 17; received++) {
                int r = received;
                Check.due(all + ": reaches(8, " + r + ")", () -> x.reaches(8, r), r == pair[0] || r == pair[1]);
            }
        }
        // Behind the tick 8 are 15, behind 9 are 16: one state.
        FaultBench y = Check.bench("bench plain 8 60;twice 0;twice 1;twice 2;twice 3;twice 4;twice 5;twice 6;twice 7;");
        Check.states("16", y, Check.s(1, 0), Check.s(2, 1), Check.s(3, 3), Check.s(4, 5), Check.s(5, 7), Check.s(6, 9),
                Check.s(7, 11), Check.s(8, 13), Check.s(8, 15));
        // The window protocol goes up to 15 and beyond: a modulus of 2, and packets that go again and again.
        FaultBench z = Check.bench("bench window 7 129;latency 5;timer 2;size 3 2;");
        Check.due("15 without faults", () -> z.result(2), 15);
        Check.due("15 without faults", () -> z.reaches(7, 15), true);
    }

    private static void sendersNumber() {
        Check.sentence("the sender's number (plain: items sent; alternate: the present item, or items if it is done; window: "
                + "base)");
        Check.states("plain", Check.bench("bench plain 2 10;drop 0;drop 1;"), Check.s(1, 0), Check.s(2, 0));
        Check.states("alternate", Check.bench("bench alternate 1 10;drop 0;"), Check.s(0, 0), Check.s(0, 1));
        Check.states("alternate", Check.bench("bench alternate 1 20;drop 0;"), Check.s(0, 0), Check.s(0, 1),
                Check.s(1, 1));
        // next is 2 behind the tick 1, but base is 0.
        Check.states("window", Check.bench("bench window 2 10;"), Check.s(0, 0), Check.s(0, 1), Check.s(1, 2),
                Check.s(2, 2));
        FaultBench x = Check.bench("bench plain 8 10;");
        Check.due("8 items", () -> x.reaches(8, 8), true);
        x.set(0, 1);
        x.set(2, 200);
        Check.due("8 items", () -> x.reaches(8, 8), true);
        x.set(0, 2);
        Check.due("8 items", () -> x.reaches(8, 8), true);
    }

    // ---- promises 7 to 11

    private static void completeTick() {
        Check.sentence("Promise 7: 3 the tick in which each item had been delivered first (NONE if that never was so)");
        FaultBench x = Check.bench("bench plain 3 30;late 1 20;");
        Check.due("the last one of all", () -> x.result(3), 22);
        x.addFault(1, 2, 0);
        x.addFault(1, 1, 0);
        Check.due("not the second time", () -> x.result(3), 22);
        x.addFault(0, 0, 0);
        Check.due("never", () -> x.result(3), -1);
        x.clearFaults();
        x.addFault(2, 2, 20);
        x.set(2, 24);
        Check.due("in the last tick", () -> x.result(3), 23);
        x.set(2, 23);
        Check.due("behind it", () -> x.result(3), -1);
    }

    private static void dataAgain() {
        Check.sentence("Promise 7: 4 transmissions of data whose item an earlier transmission had");
        Check.due("none", () -> Check.bench("bench plain 8 20;").result(4), 0);
        // What comes twice is one transmission.
        Check.due("twice is one", () -> Check.bench("bench plain 1 20;twice 0;").result(4), 0);
        // The third time counts too; an answer with the item's number does not.
        Check.due("two", () -> Check.bench("bench alternate 1 40;timer 4;drop 0;drop 1;").result(4), 2);
        Check.due("answers", () -> Check.bench("bench alternate 2 40;twice 0;twice 2;").result(4), 0);
        // 120 transmissions: 62 of data with 7 items.
        FaultBench x = Check.bench("bench alternate 8 200;latency 5;timer 1;");
        Check.due("full", () -> x.result(4), 120 - x.result(5) - 7);
    }

    private static void noAnswers() {
        Check.sentence("Promise 7: 5 transmissions that are answers");
        Check.due("plain", () -> Check.bench("bench plain 8 40;twice 0;").result(5), 0);
        Check.due("nothing arrives", () -> Check.bench("bench alternate 1 10;timer 20;drop 0;").result(5), 0);
        Check.due("one that is dropped", () -> Check.bench("bench alternate 1 10;timer 20;drop 1;").result(5), 1);
        Check.due("to both times", () -> Check.bench("bench window 1 10;twice 0;").result(5), 2);
    }

    private static void brokenBits() {
        Check.sentence("Promise 7: 7 the promises that it breaks as bits");
        FaultBench x = Check.bench("bench plain 4 40;");
        brokenBits(x, 0);
        x.set(7, 3);
        brokenBits(x, 8);
        x.addFault(1, 0, 0);
        brokenBits(x, 10);
        x.addFault(2, 1, 10);
        brokenBits(x, 14);
        x.addFault(0, 3, 0);
        brokenBits(x, 15);
        x.removeFault(0);
        brokenBits(x, 13);
        x.removeFault(0);
        brokenBits(x, 9);
    }

    private static void brokenBits(FaultBench x, int due) {
        Check.due("bits", () -> x.result(7), due);
        for (int promise = 0; promise < 4; promise++) {
            int p = promise;
            Check.due("breaks(" + p + ")", () -> x.breaks(p), (due >> p & 1) == 1);
        }
    }

    private static void resultOutOfRange() {
        Check.sentence("Promise 7: Throws IllegalArgumentException if what is out of range");
        FaultBench x = new FaultBench();
        for (int what : new int[] {-1, 8, 9, 32, LEAST, LEAST + 7, GREATEST}) {
            Check.raisesArgument("result(" + what + ")", () -> x.result(what));
        }
        Check.due("result(0)", () -> x.result(0), 2);
        Check.due("result(7)", () -> x.result(7), 0);
    }

    private static void notSoManyDelivered() {
        Check.sentence("Promise 8: Returns the item; NONE if not so many were delivered, or k is negative.");
        Check.delivers("none", Check.bench("bench plain 1 10;drop 0;"));
        FaultBench x = Check.bench("bench plain 8 60;twice 0;twice 1;twice 2;twice 3;twice 4;twice 5;twice 6;twice 7;");
        Check.due("the first", () -> x.delivered(0), 0);
        Check.due("the last", () -> x.delivered(15), 7);
        for (int k : new int[] {16, 17, 120, 239, 240, 241, -1, LEAST, LEAST + 1, GREATEST}) {
            Check.due("delivered(" + k + ")", () -> x.delivered(k), -1);
        }
        // What an earlier run delivered is not there any more.
        x.clearFaults();
        x.set(1, 2);
        Check.delivers("two", x, 0, 1);
    }

    private static void partsOfTransmissions() {
        Check.sentence("Promise 9: part: .. 1 0 for data and 1 for an answer, 2 the item of data, the sign of an answer");
        FaultBench x = Check.bench("bench alternate 8 40;");
        Check.sent("item 7", x, 14, 14, 0, 7, 15, -1);
        Check.sent("its sign", x, 15, 15, 1, 1, 16, -1);
        x.set(0, 2);
        x.set(6, 8);
        x.set(5, 1);
        Check.sent("item 6", x, 12, 12, 0, 6, 13, -1);
        Check.sent("its answer", x, 13, 13, 1, 7, 14, -1);
        Check.sent("the answer of item 7", x, 15, 15, 1, 0, 16, -1);
    }

    private static void wouldHaveArrived() {
        Check.sentence("Promise 9: 3 the tick in which it arrived or would have arrived if the run had gone on (NONE if it "
                + "was dropped), 4 likewise for the second time (NONE without it)");
        FaultBench x = Check.bench("bench plain 8 10;latency 5;late 7 20;twice 7;twice 4;");
        Check.sent("in the last tick", x, 4, 4, 0, 4, 9, 10);
        Check.sent("behind it", x, 5, 5, 0, 5, 10, -1);
        Check.sent("far behind it", x, 7, 7, 0, 7, 32, 33);
        x.addFault(0, 7, 0);
        Check.sent("dropped", x, 7, 7, 0, 7, -1, -1);
        // The latest arrival there can be. Item 0 goes in 0, 20, .. 140, where it is not dropped; items 1 to 4 take ten
        // ticks each, the last one nine more: item 5 goes in 199, and comes 5, 20 and 1 ticks later.
        FaultBench y = Check.bench("bench alternate 8 200;timer 20;latency 5;drop 0;drop 1;drop 2;drop 3;drop 4;drop 5;drop 6;"
                + "late 15 9;late 17 20;twice 17;");
        Check.sent("item 4", y, 15, 180, 0, 4, 194, -1);
        Check.sent("its answer", y, 16, 194, 1, 0, 199, -1);
        Check.sent("item 5", y, 17, 199, 0, 5, 224, 225);
        Check.due("200 ticks", () -> y.result(0), 200);
    }

    private static void notSoManySent() {
        Check.sentence("Promise 9: Returns the part; NONE if there were not so many transmissions, or k is negative.");
        FaultBench x = Check.bench("bench alternate 1 20;");
        FaultBench y = Check.bench("bench alternate 8 200;latency 5;timer 1;");
        for (int part = 0; part < 5; part++) {
            int p = part;
            for (int k : new int[] {2, 3, 119, 120, 121, -1, LEAST, LEAST + 1, GREATEST}) {
                Check.due("two: sent(" + k + ", " + p + ")", () -> x.sent(k, p), -1);
            }
            for (int k : new int[] {120, 121, 240, -1, LEAST, GREATEST}) {
                Check.due("120: sent(" + k + ", " + p + ")", () -> y.sent(k, p), -1);
            }
        }
        Check.due("the last of two", () -> x.sent(1, 3), 2);
        Check.due("the last of 120", () -> y.sent(119, 3), 67);
        // What an earlier run sent is not there any more.
        y.set(0, 0);
        Check.sent("plain", y, 8, -1, -1, -1, -1, -1);
    }

    private static void partOutOfRange() {
        Check.sentence("Promise 9: Throws IllegalArgumentException if part is out of range");
        FaultBench x = new FaultBench();
        for (int part : new int[] {-1, 5, 6, 32, LEAST, GREATEST}) {
            for (int k : new int[] {0, 1, 120, -1, LEAST, GREATEST}) {
                Check.raisesArgument("sent(" + k + ", " + part + ")", () -> x.sent(k, part));
            }
        }
    }

    private static void noSuchPromise() {
        Check.sentence("Promise 10: Throws IllegalArgumentException if there is no such promise");
        FaultBench x = new FaultBench();
        for (int promise : new int[] {-1, 4, 5, 8, 31, 32, 35, LEAST, LEAST + 1, GREATEST}) {
            Check.raisesArgument("breaks(" + promise + ")", () -> x.breaks(promise));
        }
        for (int promise = 0; promise < 4; promise++) {
            int p = promise;
            Check.due("breaks(" + p + ")", () -> x.breaks(p), false);
        }
    }

    private static void anyState() {
        Check.sentence("Promise 11: sender: the sender's number, any int; received: how many were delivered, any int");
        FaultBench x = Check.bench("bench plain 8 60;twice 0;twice 1;twice 2;twice 3;twice 4;twice 5;twice 6;twice 7;");
        Check.due("reaches(8, 15)", () -> x.reaches(8, 15), true);
        for (int far : new int[] {-1, 16, 17, 31, 32, 40, 47, 64, 256, LEAST, LEAST + 8, LEAST + 15, GREATEST}) {
            Check.due("reaches(8, " + far + ")", () -> x.reaches(8, far), false);
            Check.due("reaches(" + far + ", 15)", () -> x.reaches(far, 15), false);
            Check.due("reaches(" + far + ", " + far + ")", () -> x.reaches(far, far), false);
        }
        for (int sender : BEYOND) {
            for (int received : BEYOND) {
                Check.due("reaches(" + sender + ", " + received + ")", () -> x.reaches(sender, received), false);
            }
        }
        Check.due("reaches(9, 15)", () -> x.reaches(9, 15), false);
        Check.due("reaches(0, 0)", () -> x.reaches(0, 0), false);
    }
}
