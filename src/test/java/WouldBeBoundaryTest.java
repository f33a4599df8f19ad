/** The boundary cases of the promises 12 to 19: a test of its own for each sentence that names one. */
public final class WouldBeBoundaryTest {
    private static final int LEAST = Integer.MIN_VALUE;
    private static final int GREATEST = Integer.MAX_VALUE;
    private static final int[] NO_PROMISES = {-1, 4, 5, 32, 35, LEAST, LEAST + 3, GREATEST};
    private static final int[] NO_PARTS = {-1, 3, 4, 32, LEAST, GREATEST};
    // Sent in each tick from 0 on, and delivered five ticks later: in time, up to 14, unless all of the ten are dropped.
    private static final String ALL_TEN = "bench alternate 1 200;timer 1;latency 5;budget 14;drop 0;drop 1;drop 2;drop 3;"
            + "drop 4;drop 5;drop 6;drop 7;drop 8;drop 9;";
    // Item 0 goes in 0 and 20, and has to come by 21: two faults are needed, drop 0 and then drop 1 or late 1.
    private static final String PAIRS = "bench alternate 1 200;timer 20;budget 21;drop 0;twice 0;late 0 20;drop 1;twice 1;"
            + "late 1 1;drop 2;twice 2;late 2 1;drop 3;";

    public static void main(String[] args) {
        mattersInABrokenRun();
        mattersNotInAGoodRun();
        mattersNotIfStillBroken();
        mattersNoSuchFault();
        mattersNoSuchPromise();
        smallestOfAll();
        smallestIsZero();
        smallestIsNone();
        smallestNoSuchPromise();
        coreIsAPart();
        coreOfSeveral();
        coreIsNone();
        coreNoSuchPromise();
        leastOfOneToItsAmount();
        leastOfASchedule();
        leastIsNone();
        leastOfAnotherKind();
        leastNoSuchFault();
        leastNoSuchPromise();
        attackWithTheLeastNumber();
        attackWithTheLeastKind();
        attackWithTheLeastAmount();
        attackWithoutTheSchedule();
        attackIsNone();
        attackBrokenAlready();
        attackAmounts();
        attackOutOfRange();
        weakPointsOfEach();
        weakPointsWithoutTheSchedule();
        weakPointsBrokenAlready();
        weakPointsNoSuchPromise();
        timerIsOne();
        timerIsTwenty();
        timerIsNone();
        timerAllElseAsItIs();
        timerNoSuchPromise();
        recordedAnyInt();
        recordedNone();
        nothingChanges();
        Check.finish("WouldBeBoundaryTest");
    }

    // ---- matters

    private static void mattersInABrokenRun() {
        Check.sentence("Promise 12: the run breaks it, and would not without this fault.");
        FaultBench one = Check.bench("bench plain 1 10;drop 0;");
        Check.due("the only one", () -> one.matters(0, 0), true);
        FaultBench ten = Check.bench(ALL_TEN);
        for (int fault = 0; fault < 10; fault++) {
            int f = fault;
            Check.due("each of ten, " + f, () -> ten.matters(f, 3), true);
        }
        // In 13 the tenth comes too late anyway.
        ten.set(7, 13);
        for (int fault = 0; fault < 10; fault++) {
            int f = fault;
            Check.due("nine of ten, " + f, () -> ten.matters(f, 3), f < 9);
        }
    }

    private static void mattersNotInAGoodRun() {
        Check.sentence("Promise 12: the run breaks it (it does not)");
        FaultBench x = Check.bench("bench plain 2 30;late 0 1;");
        for (int promise = 0; promise < 4; promise++) {
            int p = promise;
            Check.due("a good run, " + p, () -> x.matters(0, p), false);
        }
        // Without the drop it would break it: it does not matter either.
        FaultBench y = Check.bench("bench plain 2 30;twice 1;drop 1;");
        Check.due("the drop", () -> y.matters(0, 1), false);
        Check.due("the twice", () -> y.matters(1, 1), false);
        Check.due("of a transmission that is not sent", () -> Check.bench("bench plain 2 30;drop 119;").matters(0, 0), false);
    }

    private static void mattersNotIfStillBroken() {
        Check.sentence("Promise 12: and would not without this fault (it would)");
        FaultBench x = Check.bench("bench plain 2 30;drop 0;drop 1;");
        Check.due("the first of two", () -> x.matters(0, 0), false);
        Check.due("the second of two", () -> x.matters(1, 0), false);
        x.removeFault(0);
        Check.due("the only one", () -> x.matters(0, 0), true);
        x.set(7, 1);
        Check.due("broken without faults", () -> x.matters(0, 3), false);
    }

    private static void mattersNoSuchFault() {
        Check.sentence("Promise 12: Throws IndexOutOfBoundsException if there is no such fault (checked first)");
        FaultBench none = new FaultBench();
        FaultBench ten = Check.bench(ALL_TEN);
        for (int promise : new int[] {0, 3, -1, 4, LEAST, GREATEST}) {
            Check.raisesIndex("none: matters(0, " + promise + ")", () -> none.matters(0, promise));
            for (int fault : new int[] {-1, 10, 11, LEAST, GREATEST}) {
                Check.raisesIndex("ten: matters(" + fault + ", " + promise + ")", () -> ten.matters(fault, promise));
            }
        }
    }

    private static void mattersNoSuchPromise() {
        Check.sentence("Promise 12: Throws IllegalArgumentException if there is no such promise");
        FaultBench x = Check.bench(ALL_TEN);
        for (int promise : NO_PROMISES) {
            Check.raisesArgument("matters(0, " + promise + ")", () -> x.matters(0, promise));
            Check.raisesArgument("matters(9, " + promise + ")", () -> x.matters(9, promise));
        }
    }

    // ---- smallest and core

    private static void smallestOfAll() {
        Check.sentence("Promise 13: Returns how many faults the smallest part of the schedule has with which a run breaks a "
                + "promise.");
        FaultBench x = Check.bench(ALL_TEN);
        for (int budget = 14; budget >= 5; budget--) {
            x.set(7, budget);
            int due = budget - 4;
            Check.due("up to " + budget, () -> x.smallest(3), due);
        }
        // A part breaks it, but the whole does not: the drop hides the twice.
        FaultBench y = Check.bench("bench plain 2 30;drop 1;twice 1;");
        Check.due("the whole does not", () -> y.breaks(1), false);
        Check.due("a part does", () -> y.smallest(1), 1);
    }

    private static void smallestIsZero() {
        Check.sentence("Promise 13: Returns the number (0 if a run without faults breaks it)");
        FaultBench x = Check.bench("bench plain 2 10;budget 1;");
        Check.due("no faults", () -> x.smallest(3), 0);
        x.addFault(0, 0, 0);
        Check.due("a fault", () -> x.smallest(3), 0);
        FaultBench y = Check.bench(ALL_TEN);
        y.set(7, 4);
        Check.due("ten faults", () -> y.smallest(3), 0);
        Check.due("ten faults", () -> y.core(3), 0);
        // A fault can mend what a run without it breaks: item 0 goes again in 2 and is taken for item 2, but not if item 1
        // was dropped.
        FaultBench z = Check.bench("bench window 2 30;latency 2;timer 2;size 2 2;drop 1;");
        Check.due("mended", () -> z.breaks(1), false);
        Check.due("mended", () -> z.smallest(1), 0);
        Check.due("mended", () -> z.core(1), 0);
        Check.due("mended", () -> z.attack(1, 0), -1);
        Check.due("it does not matter", () -> z.matters(0, 1), false);
    }

    private static void smallestIsNone() {
        Check.sentence("Promise 13: NONE if no part does.");
        FaultBench x = new FaultBench();
        FaultBench y = Check.bench(ALL_TEN);
        FaultBench z = Check.bench("bench plain 3 30;drop 119;twice 118;late 117 20;");
        for (int promise = 0; promise < 4; promise++) {
            int p = promise;
            Check.due("no faults", () -> x.smallest(p), -1);
            Check.due("of transmissions that are not sent", () -> z.smallest(p), -1);
        }
        Check.due("ten faults, no loss", () -> y.smallest(0), -1);
        y.set(7, 15);
        Check.due("ten faults, in 15", () -> y.smallest(3), -1);
    }

    private static void smallestNoSuchPromise() {
        Check.sentence("Promise 13: Throws IllegalArgumentException if there is no such promise");
        for (int promise : NO_PROMISES) {
            Check.raisesArgument("smallest(" + promise + ")", () -> new FaultBench().smallest(promise));
        }
    }

    private static void coreIsAPart() {
        Check.sentence("Promise 14: Returns the smallest part of the schedule with which a run breaks a promise. .. Returns "
                + "the faults as bits");
        FaultBench x = Check.bench(ALL_TEN);
        for (int budget = 14; budget >= 4; budget--) {
            x.set(7, budget);
            int due = (1 << budget - 4) - 1;
            Check.due("up to " + budget, () -> x.core(3), due);
        }
        // Of ten faults the last one alone.
        FaultBench y = Check.bench("bench plain 8 30;twice 0;late 0 1;twice 1;late 1 1;twice 2;twice 3;twice 4;twice 5;"
                + "twice 6;drop 7;");
        Check.due("the last", () -> y.core(0), 512);
        Check.due("the first", () -> y.core(1), 1);
        // Late by 1 alone changes no order; with twice, item 0 comes in 3 behind item 1.
        Check.due("the first two", () -> y.core(2), 3);
    }

    private static void coreOfSeveral() {
        Check.sentence("Promise 14: Of several parts with the same number of faults it is the one that has the first fault "
                + "that only one of two such parts has.");
        FaultBench singles = Check.bench("bench plain 8 30;drop 0;drop 1;drop 2;drop 3;drop 4;drop 5;drop 6;drop 7;twice 8;"
                + "drop 9;");
        for (int count = 10; count > 2; count--) {
            Check.due("the first of " + count, () -> singles.core(0), 1);
            singles.removeFault(0);
        }
        Check.due("none of them", () -> singles.core(0), -1);
        // drop 0 (bit 0) with drop 1 (bit 3) or late 1 (bit 5).
        FaultBench pairs = Check.bench(PAIRS);
        Check.due("two", () -> pairs.smallest(3), 2);
        Check.due("drop 0 and drop 1", () -> pairs.core(3), 0b1001);
        pairs.removeFault(3);
        Check.due("drop 0 and late 1", () -> pairs.core(3), 0b10001);
        pairs.removeFault(4);
        Check.due("none", () -> pairs.core(3), -1);
        // {0, 3} and {1, 2}: 0 is the first fault that only one has, though the bits 6 are less than 9.
        FaultBench crossed = Check.bench("bench alternate 2 15;timer 2;budget 6;late 0 2;drop 1;drop 3;late 4 4;");
        Check.due("0 and 3", () -> crossed.core(3), 0b1001);
        crossed.removeFault(3);
        Check.due("1 and 2", () -> crossed.core(3), 0b0110);
        // Fewer faults come first, whatever their place.
        FaultBench fewer = Check.bench(PAIRS);
        fewer.set(7, 20);
        Check.due("one", () -> fewer.core(3), 0b0001);
        fewer.removeFault(0);
        Check.due("late 0 alone", () -> fewer.core(3), 0b0010);
    }

    private static void coreIsNone() {
        Check.sentence("Promise 14: NONE if no part does.");
        FaultBench x = new FaultBench();
        FaultBench y = Check.bench(ALL_TEN);
        y.set(7, 15);
        for (int promise = 0; promise < 4; promise++) {
            int p = promise;
            Check.due("no faults", () -> x.core(p), -1);
            Check.due("ten faults", () -> y.core(p), -1);
        }
        x.set(7, 1);
        Check.due("just in time", () -> x.core(3), -1);
        x.set(1, 2);
        Check.due("not in time without faults", () -> x.core(3), 0);
    }

    private static void coreNoSuchPromise() {
        Check.sentence("Promise 14: Throws IllegalArgumentException if there is no such promise");
        for (int promise : NO_PROMISES) {
            Check.raisesArgument("core(" + promise + ")", () -> new FaultBench().core(promise));
        }
    }

    // ---- leastAmount

    private static void leastOfOneToItsAmount() {
        Check.sentence("Promise 15: Returns the least of 1 to its amount");
        FaultBench x = Check.bench("bench plain 1 100;late 0 20;");
        for (int budget = 1; budget <= 20; budget++) {
            x.set(7, budget);
            int due = budget;
            Check.due("in " + budget, () -> x.leastAmount(0, 3), due);
        }
        x.set(7, 21);
        Check.due("in 21", () -> x.leastAmount(0, 3), -1);
        for (int amount = 1; amount <= 20; amount++) {
            FaultBench y = Check.bench("bench plain 1 100;late 0 " + amount + ";");
            y.set(7, amount);
            int due = amount;
            Check.due("its amount", () -> y.leastAmount(0, 3), due);
            y.set(7, amount + 1);
            Check.due("one more would be needed", () -> y.leastAmount(0, 3), -1);
        }
        // 1 is the least, also if a run without it breaks the promise already.
        FaultBench z = Check.bench("bench plain 2 100;late 0 20;drop 1;");
        Check.due("broken anyway", () -> z.leastAmount(0, 0), 1);
    }

    private static void leastOfASchedule() {
        Check.sentence("Promise 15: Returns the least amount of a late fault with which the run would break a promise, all "
                + "other faults as they are.");
        // Late by 6 or 7 item 0 is taken for item 2; by 5 and 8 it is not.
        for (int amount = 1; amount <= 20; amount++) {
            FaultBench x = Check.bench("bench alternate 3 60;timer 3;late 0 " + amount + ";");
            int due = amount >= 6 ? 6 : -1;
            Check.due("late by " + amount, () -> x.leastAmount(0, 1), due);
            Check.due("as it is", () -> x.breaks(1), amount == 6 || amount == 7);
        }
        // Of two late ones, item 1 comes in 2 + 9: item 0 is behind it from 11 on, and ahead of it otherwise.
        FaultBench y = Check.bench("bench plain 2 60;late 0 20;late 1 9;");
        Check.due("behind item 1", () -> y.leastAmount(0, 2), 11);
        Check.due("item 1 ahead of item 0", () -> y.leastAmount(1, 2), 1);
        y.removeFault(1);
        Check.due("behind item 1", () -> y.leastAmount(0, 2), 2);
    }

    private static void leastIsNone() {
        Check.sentence("Promise 15: NONE if none does");
        FaultBench x = Check.bench("bench plain 2 60;late 0 1;late 1 20;");
        Check.due("no loss", () -> x.leastAmount(0, 0), -1);
        Check.due("no double", () -> x.leastAmount(1, 1), -1);
        Check.due("in the same tick", () -> x.leastAmount(0, 2), -1);
        // Dropped: its amount does not matter.
        FaultBench y = Check.bench("bench plain 1 60;late 0 20;drop 0;");
        Check.due("double", () -> y.leastAmount(1, 1), -1);
        Check.due("loss", () -> y.leastAmount(1, 0), 1);
        // Of a transmission that is not sent.
        Check.due("not sent", () -> Check.bench("bench plain 1 60;late 119 20;").leastAmount(0, 0), -1);
    }

    private static void leastOfAnotherKind() {
        Check.sentence("Promise 15: .. or it is not a late one.");
        FaultBench x = Check.bench("bench plain 1 60;drop 0;twice 0;late 0 20;");
        Check.due("a drop", () -> x.leastAmount(0, 0), -1);
        Check.due("a twice", () -> x.leastAmount(1, 0), -1);
        Check.due("a late one", () -> x.leastAmount(2, 0), 1);
        for (int promise = 0; promise < 4; promise++) {
            int p = promise;
            Check.due("a drop", () -> x.leastAmount(0, p), -1);
            Check.due("a twice", () -> x.leastAmount(1, p), -1);
        }
    }

    private static void leastNoSuchFault() {
        Check.sentence("Promise 15: Throws IndexOutOfBoundsException if there is no such fault (checked first)");
        FaultBench none = new FaultBench();
        FaultBench ten = Check.bench(PAIRS);
        for (int promise : new int[] {0, 3, -1, 4, LEAST, GREATEST}) {
            Check.raisesIndex("none: leastAmount(0, " + promise + ")", () -> none.leastAmount(0, promise));
            for (int fault : new int[] {-1, 10, 11, LEAST, GREATEST}) {
                Check.raisesIndex("ten: leastAmount(" + fault + ", " + promise + ")", () -> ten.leastAmount(fault, promise));
            }
        }
    }

    private static void leastNoSuchPromise() {
        Check.sentence("Promise 15: Throws IllegalArgumentException if there is no such promise");
        FaultBench x = Check.bench(PAIRS);
        for (int promise : NO_PROMISES) {
            for (int fault = 0; fault < 10; fault++) {
                int f = fault;
                Check.raisesArgument("leastAmount(" + f + ", " + promise + ")", () -> x.leastAmount(f, promise));
            }
        }
    }

    // ---- attack

    private static void attack(String what, FaultBench x, int promise, int kind, int number, int amount) {
        Check.due(what + " kind", () -> x.attack(promise, 0), kind);
        Check.due(what + " number", () -> x.attack(promise, 1), number);
        Check.due(what + " amount", () -> x.attack(promise, 2), amount);
    }

    private static void attackWithTheLeastNumber() {
        Check.sentence("Promise 16: the one with the least number of its transmission");
        attack("all eight", Check.bench("bench plain 8 40;"), 0, 0, 0, 0);
        attack("the only one", new FaultBench(), 0, 0, 0, 0);
        // Item 1, number 2, goes again in 4 if it is dropped, and comes in 5. Item 0 goes again in 2, and item 1 then in 3;
        // number 1 is an answer, which item 1 does not wait for.
        FaultBench x = Check.bench("bench window 2 40;timer 2;size 2 2;budget 4;");
        attack("the third", x, 3, 0, 2, 0);
        x.set(7, 3);
        attack("the first", x, 3, 0, 0, 0);
        attack("the 21st", Check.bench("bench window 5 200;latency 5;timer 4;size 4 5;budget 21;"), 3, 0, 20, 0);
        // Item 0 in its fourth packet, sent in 6, can come in 30, when r is 7: it is taken for item 7 by the modulus 7.
        attack("the tenth", Check.bench("bench window 7 200;latency 4;timer 2;size 2 7;"), 1, 2, 9, 20);
    }

    private static void attackWithTheLeastKind() {
        Check.sentence("Promise 16: of several the one with the least kind");
        FaultBench x = Check.bench("bench plain 1 40;budget 2;");
        // drop 0 and late 0 by 2 break it; twice 0 does not.
        attack("drop ahead of late", x, 3, 0, 0, 0);
        attack("twice", x, 1, 1, 0, 0);
        // Late 0 by 2 breaks the order, no drop and no twice of item 0 does.
        attack("late", Check.bench("bench plain 2 40;"), 2, 2, 0, 2);
        // The number decides before the kind: drop 1, of the answer of item 0, breaks it too.
        FaultBench y = Check.bench("bench window 2 40;timer 2;size 2 2;");
        attack("late 0", y, 1, 2, 0, 1);
        Check.due("a drop too", () -> y.weakPoints(1), 1);
        y.addFault(0, 1, 0);
        Check.due("drop 1", () -> y.breaks(1), true);
    }

    private static void attackWithTheLeastAmount() {
        Check.sentence("Promise 16: of several late ones that with the least amount (1 to 20).");
        attack("1", Check.bench("bench window 2 13;latency 2;timer 4;size 3 2;"), 1, 2, 0, 1);
        attack("2", Check.bench("bench plain 8 40;"), 2, 2, 0, 2);
        // Item 0 goes again in timer; it is answered, and item 1 comes in timer + 3. A tick later item 0 is taken for the
        // next one: it comes in 1 + amount.
        FaultBench x = Check.bench("bench alternate 2 200;budget 200;");
        for (int timer = 2; timer <= 17; timer++) {
            x.set(4, timer);
            attack("timer " + timer, x, 1, 2, 0, timer + 3);
        }
        x.set(4, 18);
        attack("timer 18: 21 is too much", x, 1, -1, -1, -1);
    }

    private static void attackWithoutTheSchedule() {
        Check.sentence("Promise 16: Finds a single fault with which a run (without the schedule) breaks a promise");
        FaultBench x = Check.bench("bench plain 8 40;drop 0;drop 1;drop 2;drop 3;drop 4;drop 5;drop 6;drop 7;twice 0;late 0 20;");
        attack("no loss", x, 0, 0, 0, 0);
        attack("no double", x, 1, 1, 0, 0);
        attack("order", x, 2, 2, 0, 2);
        attack("in time", x, 3, 0, 0, 0);
        Check.due("the faults stay", () -> x.size(8), 10);
    }

    private static void attackIsNone() {
        Check.sentence("Promise 16: Returns the part; NONE if no single fault does");
        attack("order of one item", Check.bench("bench plain 1 40;"), 2, -1, -1, -1);
        FaultBench x = Check.bench("bench alternate 3 200;timer 20;budget 200;");
        attack("no loss", x, 0, -1, -1, -1);
        attack("in time", x, 3, -1, -1, -1);
        // A drop of the first packet costs 20 ticks: item 2 comes in 25 instead of 5.
        x.set(7, 25);
        attack("in 25", x, 3, -1, -1, -1);
        x.set(7, 24);
        attack("in 24", x, 3, 0, 0, 0);
    }

    private static void attackBrokenAlready() {
        Check.sentence("Promise 16: NONE .. (also if a run without faults breaks the promise already).");
        FaultBench x = Check.bench("bench plain 2 40;budget 2;");
        attack("just in time", x, 3, 0, 0, 0);
        x.set(7, 1);
        attack("not in time", x, 3, -1, -1, -1);
        attack("another promise", x, 0, 0, 0, 0);
        // Eight items in ten ticks, with a latency of 5: five come.
        FaultBench y = Check.bench("bench plain 8 10;latency 5;");
        attack("loss already", y, 0, -1, -1, -1);
        attack("in time", y, 3, -1, -1, -1);
        attack("double not", y, 1, 1, 0, 0);
        // Without faults each item of the window comes more than once.
        FaultBench z = Check.bench("bench window 7 129;latency 5;timer 2;size 3 2;");
        attack("double already", z, 1, -1, -1, -1);
        attack("order already", z, 2, -1, -1, -1);
    }

    private static void attackAmounts() {
        Check.sentence("Promise 16: 2 its amount (0 for the other kinds)");
        Check.due("of a drop", () -> new FaultBench().attack(0, 2), 0);
        Check.due("of a twice", () -> new FaultBench().attack(1, 2), 0);
        Check.due("of a late one", () -> Check.bench("bench plain 2 40;").attack(2, 2), 2);
        Check.due("of none", () -> new FaultBench().attack(2, 2), -1);
    }

    private static void attackOutOfRange() {
        Check.sentence("Promise 16: Throws IllegalArgumentException if there is no such promise, or part is out of range");
        FaultBench x = new FaultBench();
        FaultBench broken = Check.bench("bench plain 8 10;latency 5;");
        for (int promise : NO_PROMISES) {
            Check.raisesArgument("attack(" + promise + ", 0)", () -> x.attack(promise, 0));
            for (int part : NO_PARTS) {
                Check.raisesArgument("attack(" + promise + ", " + part + ")", () -> x.attack(promise, part));
            }
        }
        for (int part : NO_PARTS) {
            for (int promise = 0; promise < 4; promise++) {
                int p = promise;
                Check.raisesArgument("attack(" + p + ", " + part + ")", () -> x.attack(p, part));
                Check.raisesArgument("broken: attack(" + p + ", " + part + ")", () -> broken.attack(p, part));
            }
        }
    }

    // ---- weakPoints

    private static void weakPointsOfEach() {
        Check.sentence("Promise 17: Counts the transmissions whose drop alone .. makes a run break a promise. Returns the "
                + "number, of the transmissions 0 to 119");
        for (int items = 1; items <= 8; items++) {
            FaultBench x = Check.bench("bench plain " + items + " 40;");
            int all = items;
            Check.due("each item, no loss", () -> x.weakPoints(0), all);
            Check.due("no item, no double", () -> x.weakPoints(1), 0);
            Check.due("no item, order", () -> x.weakPoints(2), 0);
            Check.due("each item, in time", () -> x.weakPoints(3), all);
        }
        // Alternate, timer 20, three items: each drop costs 18 to 20 ticks, but that of the last answer.
        FaultBench y = Check.bench("bench alternate 3 60;timer 20;budget 5;");
        Check.due("all but the last answer", () -> y.weakPoints(3), 5);
        Check.due("no loss", () -> y.weakPoints(0), 0);
        for (FaultBench one : new FaultBench[] {y, Check.bench("bench window 7 17;latency 4;timer 2;size 2 2;"),
            Check.bench("bench alternate 8 48;latency 3;timer 6;"), Check.bench("bench alternate 8 200;latency 5;timer 1;")}) {
            for (int promise = 0; promise < 4; promise++) {
                int p = promise;
                int due = dropOneByOne(one, p);
                Check.due("one by one, promise " + p, () -> one.weakPoints(p), due);
            }
        }
        Check.due("16 of 26", () -> Check.bench("bench window 7 17;latency 4;timer 2;size 2 2;").weakPoints(0), 16);
        Check.due("15 of 16", () -> Check.bench("bench alternate 8 48;latency 3;timer 6;").weakPoints(0), 15);
    }

    private static int dropOneByOne(FaultBench x, int promise) {
        if (x.breaks(promise)) {
            return 0;
        }
        int found = 0;
        for (int number = 0; number < 120; number++) {
            x.addFault(0, number, 0);
            found += x.breaks(promise) ? 1 : 0;
            x.removeFault(0);
        }
        return found;
    }

    private static void weakPointsWithoutTheSchedule() {
        Check.sentence("Promise 17: whose drop alone (without the schedule)");
        FaultBench x = Check.bench("bench plain 8 40;drop 0;drop 1;drop 2;drop 3;drop 4;drop 5;drop 6;twice 1;twice 2;late 3 20;");
        Check.due("no loss", () -> x.weakPoints(0), 8);
        Check.due("no double", () -> x.weakPoints(1), 0);
        Check.due("order", () -> x.weakPoints(2), 0);
        Check.due("in time", () -> x.weakPoints(3), 8);
    }

    private static void weakPointsBrokenAlready() {
        Check.sentence("Promise 17: 0 if a run without faults breaks the promise already.");
        FaultBench x = Check.bench("bench plain 8 40;budget 8;");
        Check.due("just in time", () -> x.weakPoints(3), 8);
        x.set(7, 7);
        Check.due("not in time", () -> x.weakPoints(3), 0);
        Check.due("no loss all the same", () -> x.weakPoints(0), 8);
        FaultBench y = Check.bench("bench plain 8 10;latency 5;");
        Check.due("loss already", () -> y.weakPoints(0), 0);
    }

    private static void weakPointsNoSuchPromise() {
        Check.sentence("Promise 17: Throws IllegalArgumentException if there is no such promise");
        for (int promise : NO_PROMISES) {
            Check.raisesArgument("weakPoints(" + promise + ")", () -> new FaultBench().weakPoints(promise));
        }
    }

    // ---- timerFor

    private static void timerIsOne() {
        Check.sentence("Promise 18: Returns the least timer, 1 to 20 (the least)");
        FaultBench x = new FaultBench();
        for (int promise = 0; promise < 4; promise++) {
            int p = promise;
            Check.due("plain has no timer", () -> x.timerFor(p), 1);
        }
        x.set(4, 20);
        Check.due("not the present one", () -> x.timerFor(0), 1);
    }

    private static void timerIsTwenty() {
        Check.sentence("Promise 18: Returns the least timer, 1 to 20 (the greatest)");
        // With each timer below 20 item 0 goes again and comes by the tick 24, when its sign is that of r = 2.
        FaultBench x = Check.bench("bench window 2 25;latency 5;timer 5;size 2 2;late 2 11;drop 3;");
        Check.due("20", () -> x.timerFor(1), 20);
        for (int timer = 1; timer <= 20; timer++) {
            x.set(4, timer);
            int t = timer;
            Check.due("with " + t, () -> x.breaks(1), t < 20);
        }
        x.set(2, 26);
        Check.due("21 is too much", () -> x.timerFor(1), -1);
    }

    private static void timerIsNone() {
        Check.sentence("Promise 18: Returns the timer; NONE if there is none.");
        Check.due("plain", () -> Check.bench("bench plain 1 10;drop 0;").timerFor(0), -1);
        Check.due("plain", () -> Check.bench("bench plain 1 10;drop 0;").timerFor(1), 1);
        // Each of six packets is dropped: the seventh goes in 6 times the timer, and comes a tick later.
        FaultBench x = Check.bench("bench alternate 1 200;drop 0;drop 1;drop 2;drop 3;drop 4;drop 5;budget 7;");
        Check.due("in 7", () -> x.timerFor(3), 1);
        x.set(7, 6);
        Check.due("in 6", () -> x.timerFor(3), -1);
    }

    private static void timerAllElseAsItIs() {
        Check.sentence("Promise 18: with which the run would not break a promise, all else as it is.");
        FaultBench x = Check.bench("bench alternate 3 60;timer 3;late 0 7;");
        Check.due("as it is", () -> x.breaks(1), true);
        int due = -1;
        for (int timer = 20; timer >= 1; timer--) {
            x.set(4, timer);
            due = x.breaks(1) ? due : timer;
        }
        int least = due;
        Check.due("one by one", () -> x.timerFor(1), least);
        Check.due("it stays", () -> x.size(4), 1);
        x.clearFaults();
        Check.due("without the fault", () -> x.timerFor(1), 1);
    }

    private static void timerNoSuchPromise() {
        Check.sentence("Promise 18: Throws IllegalArgumentException if there is no such promise");
        for (int promise : NO_PROMISES) {
            Check.raisesArgument("timerFor(" + promise + ")", () -> new FaultBench().timerFor(promise));
        }
    }

    // ---- isRecorded

    private static void recordedAnyInt() {
        Check.sentence("Promise 19: sender: the sender's number, any int; received: how many were delivered, any int");
        FaultBench x = Check.bench("bench plain 8 60;twice 0;twice 1;twice 2;twice 3;twice 4;twice 5;twice 6;twice 7;");
        Check.due("record", x::record, 9);
        Check.due("isRecorded(8, 15)", () -> x.isRecorded(8, 15), true);
        Check.due("isRecorded(1, 0)", () -> x.isRecorded(1, 0), true);
        int[] far = {-1, 16, 17, 31, 32, 40, 47, 64, 256, LEAST, LEAST + 8, LEAST + 15, GREATEST};
        for (int one : far) {
            Check.due("isRecorded(8, " + one + ")", () -> x.isRecorded(8, one), false);
            Check.due("isRecorded(" + one + ", 15)", () -> x.isRecorded(one, 15), false);
            Check.due("isRecorded(" + one + ", 0)", () -> x.isRecorded(one, 0), false);
            for (int other : far) {
                Check.due("isRecorded(" + one + ", " + other + ")", () -> x.isRecorded(one, other), false);
            }
        }
        Check.due("isRecorded(9, 15)", () -> x.isRecorded(9, 15), false);
    }

    private static void recordedNone() {
        Check.sentence("Promise 19: Returns whether a state was recorded.");
        FaultBench x = new FaultBench();
        Check.due("reached", () -> x.reaches(1, 1), true);
        Check.due("not recorded", () -> x.isRecorded(1, 1), false);
        x.record();
        Check.due("recorded", () -> x.isRecorded(1, 1), true);
        x.addFault(0, 0, 0);
        Check.due("not reached any more", () -> x.reaches(1, 1), false);
        Check.due("recorded still", () -> x.isRecorded(1, 1), true);
        Check.due("never reached", () -> x.isRecorded(0, 0), false);
    }

    private static void nothingChanges() {
        Check.sentence("Ahead of the calls .. the interface says: ---- what would be; nothing changes.");
        FaultBench x = Check.bench(PAIRS);
        x.record();
        x.set(4, 19);
        x.saveSnapshot(1);
        int states = x.size(10);
        for (int promise = -1; promise <= 4; promise++) {
            int p = promise;
            quietly(() -> x.matters(0, p));
            quietly(() -> x.smallest(p));
            quietly(() -> x.core(p));
            quietly(() -> x.leastAmount(2, p));
            quietly(() -> x.attack(p, 0));
            quietly(() -> x.weakPoints(p));
            quietly(() -> x.timerFor(p));
            quietly(() -> x.isRecorded(p, 0));
        }
        Check.sizes("nothing", x, 1, 1, 200, 1, 19, 2, 4, 21, 10, 2, states);
        Check.faults("nothing", x, Check.f(0, 0, 0), Check.f(1, 0, 0), Check.f(2, 0, 20), Check.f(0, 1, 0), Check.f(1, 1, 0),
                Check.f(2, 1, 1), Check.f(0, 2, 0), Check.f(1, 2, 0), Check.f(2, 2, 1), Check.f(0, 3, 0));
        Check.due("a slot", () -> x.saveSnapshot(1), true);
        Check.due("the other slot", () -> x.saveSnapshot(0), false);
        Check.due("undo", x::undo, 1);
        Check.due("undo", x::undo, 0);
        Check.due("no states", () -> x.size(10), 0);
    }

    private static void quietly(Check.Call call) {
        try {
            call.run();
        } catch (IllegalArgumentException e) {
            // A promise that does not exist: it changes nothing either.
        }
    }
}
