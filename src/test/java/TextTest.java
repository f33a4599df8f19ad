/** Promises 1 to 6: a new object, append, parse, errorPosition, size, fault. */
public final class TextTest {
    public static void main(String[] args) {
        newObject();
        append();
        goodTexts();
        tokens();
        notAllowed();
        onceMore();
        outOfRange();
        tooManyFaults();
        parseAndTheRest();
        errorPosition();
        sizeAndFault();
        Check.finish("TextTest");
    }

    private static void newObject() {
        FaultBench x = new FaultBench();
        Check.sizes("new", x, 0, 1, 10, 1, 8, 2, 4, 50, 0, 0, 0);
        Check.results("new", x, 2, 1, 1, 1, 0, 0, 2, 0);
        Check.due("new parse(1)", () -> { try { return x.parse(1); } catch (IllegalArgumentException e) { return "no"; } }, "no");
        Check.due("new errorPosition", x::errorPosition, -1);
        Check.due("new undo", x::undo, -1);
        Check.raisesState("new restoreSnapshot(0)", () -> x.restoreSnapshot(0));
        Check.raisesState("new restoreSnapshot(1)", () -> x.restoreSnapshot(1));
        Check.due("new parse(0)", () -> x.parse(0), 1);
        Check.due("NONE", () -> FaultBench.NONE, -1);
    }

    private static void append() {
        FaultBench x = new FaultBench();
        for (int k = 1; k <= 25; k++) {
            int length = 20 * k;
            Check.due("append " + k, () -> x.append(0x20202020, 0x20202020, 0x20202020, 0x20202020, 0x20202020), length);
        }
        Check.due("append beyond 500", () -> x.append(0, 0, 0, 0, 0), -1);
        Check.due("append beyond 500 again", () -> x.append(0, 0, 0, 0, 0), -1);
        Check.raisesArgument("parse(501)", () -> x.parse(501));
        Check.due("parse of 500 spaces", () -> x.parse(500), 1);
        Check.due("its position", x::errorPosition, 500);
        Check.due("append behind it", () -> x.append(0, 0, 0, 0, 0), 20);

        // "bench window 3 77  ;": each argument carries four bytes, the first one on top.
        FaultBench y = new FaultBench();
        y.append(0x62656e63, 0x68207769, 0x6e646f77, 0x20332037, 0x3720203b);
        Check.due("parse of the bytes", () -> y.parse(20), 0);
        Check.sizes("of the bytes", y, 2, 3, 77);

        // A byte above 127 is no letter, and takes no bits of its neighbours.
        FaultBench z = new FaultBench();
        z.append(0x20ff2020, 0, 0, 0, 0);
        Check.due("parse of a byte 255", () -> z.parse(4), 1);
        Check.due("position of a byte 255", z::errorPosition, 1);
        z.append(0xe2656e63, 0x68202020, 0, 0, 0);
        Check.due("parse of a byte 226", () -> z.parse(5), 1);
        Check.due("position of a byte 226", z::errorPosition, 0);
    }

    private static void goodTexts() {
        Check.sizes("shortest", Check.bench("bench plain 1 10;"), 0, 1, 10, 1, 8, 2, 4, 50, 0, 0, 0);
        Check.sizes("most", Check.bench("bench window 8 200;latency 5;timer 20;size 4 8;budget 200;"),
                2, 8, 200, 5, 20, 4, 8, 200, 0);
        Check.sizes("least", Check.bench("bench alternate 1 10;budget 1;size 1 2;timer 1;latency 1;"),
                1, 1, 10, 1, 1, 1, 2, 1, 0);
        Check.sizes("line feeds", Check.bench("\n bench\nwindow\n\n2  11\n;\ntimer 3\n;\n "), 2, 2, 11, 1, 3, 2, 4, 50);
        Check.sizes("no gaps", Check.bench("bench plain4 10;latency2;timer3;size3 5;budget6;drop7;"),
                0, 4, 10, 2, 3, 3, 5, 6, 1);
        Check.sizes("zeros ahead", Check.bench("bench plain 008 010;timer 007;"), 0, 8, 10, 1, 7);
        Check.faults("all kinds", Check.bench("bench plain 1 10;late 5 20;drop 119;twice 5;late 0 1;drop 5;drop 0;"),
                Check.f(0, 0, 0), Check.f(2, 0, 1), Check.f(0, 5, 0), Check.f(1, 5, 0), Check.f(2, 5, 20),
                Check.f(0, 119, 0));
        Check.faults("ten", Check.bench("bench plain 1 10;drop 9;drop 8;drop 7;drop 6;drop 5;drop 4;drop 3;drop 2;"
                + "drop 1;drop 0;timer 2;"), Check.f(0, 0, 0), Check.f(0, 1, 0), Check.f(0, 2, 0), Check.f(0, 3, 0),
                Check.f(0, 4, 0), Check.f(0, 5, 0), Check.f(0, 6, 0), Check.f(0, 7, 0), Check.f(0, 8, 0),
                Check.f(0, 9, 0));
    }

    private static void tokens() {
        Check.refuses("bench alternatex 1 10;", 1, 6);
        Check.refuses("bench alternate 1 10 ; timersaboutx 3;", 1, 23);
        Check.refuses("bench plain 0001 10;", 1, 12);
        Check.refuses("bench plain 1 0010;", 1, 14);
        Check.refuses("bench plain 1 10;\tdrop 1;", 1, 17);
        Check.refuses("bench plain 1 10;\rdrop 1;", 1, 17);
        Check.refuses("bench plain 1 10;drop 1:", 1, 23);
        Check.refuses("bench plain 1 10;drop /1;", 1, 22);
        Check.refuses("bench plain 1 10;drop `;", 1, 22);
        Check.refuses("bench plain 1 10;drop {;", 1, 22);
        Check.refuses("bench plain 1 10;drop -1;", 1, 22);
        Check.refuses("bench plain 1 10;drop 1.5;", 1, 23);
        Check.refuses("Bench plain 1 10;", 1, 0);
        Check.refuses("bench Plain 1 10;", 1, 6);
        Check.refuses("bench plain 1 10;dropX 1;", 1, 21);
    }

    private static void notAllowed() {
        Check.refuses("", 1, 0);
        Check.refuses("   ", 1, 3);
        Check.refuses("bench", 1, 5);
        Check.refuses("bench ", 1, 6);
        Check.refuses("benc plain 1 10;", 1, 0);
        Check.refuses("benchh plain 1 10;", 1, 0);
        Check.refuses("zench plain 1 10;", 1, 0);
        Check.refuses("bench zlain 1 10;", 1, 6);
        Check.refuses("bench blternate 1 10;", 1, 6);
        Check.refuses("bench windop 1 10;", 1, 6);
        Check.refuses("bench plain 1 10;zatency 1;", 1, 17);
        Check.refuses("bench plain 1 10;zimer 1;", 1, 17);
        Check.refuses("bench plain 1 10;zize 1 2;", 1, 17);
        Check.refuses("bench plain 1 10;zudget 1;", 1, 17);
        Check.refuses("bench plain 1 10;zrop 1;", 1, 17);
        Check.refuses("bench plain 1 10;zwice 1;", 1, 17);
        Check.refuses("bench plain 1 10;zate 1 1;", 1, 17);
        Check.refuses(";bench plain 1 10;", 1, 0);
        Check.refuses("bench bench 1 10;", 1, 6);
        Check.refuses("bench 1 10;", 1, 6);
        Check.refuses("bench plain", 1, 11);
        Check.refuses("bench plain;", 1, 11);
        Check.refuses("bench plain x 10;", 1, 12);
        Check.refuses("bench plain 1;", 1, 13);
        Check.refuses("bench plain 1 10", 1, 16);
        Check.refuses("bench plain 1 10 10;", 1, 17);
        Check.refuses("bench plain 1 10 drop 1;", 1, 17);
        Check.refuses("bench plain 1 10;;", 1, 17);
        Check.refuses("bench plain 1 10; 5", 1, 18);
        Check.refuses("bench plain 1 10;plain 1;", 1, 17);
        Check.refuses("bench plain 1 10;bench plain 1 10;", 1, 17);
        Check.refuses("bench plain 1 10;latency", 1, 24);
        Check.refuses("bench plain 1 10;latency;", 1, 24);
        Check.refuses("bench plain 1 10;latency 1", 1, 26);
        Check.refuses("bench plain 1 10;latency 1 1;", 1, 27);
        Check.refuses("bench plain 1 10;size 1;", 1, 23);
        Check.refuses("bench plain 1 10;size 1", 1, 23);
        Check.refuses("bench plain 1 10;size 1 2 3;", 1, 26);
        Check.refuses("bench plain 1 10;drop;", 1, 21);
        Check.refuses("bench plain 1 10;drop 1 1;", 1, 24);
        Check.refuses("bench plain 1 10;twice 1 1;", 1, 25);
        Check.refuses("bench plain 1 10;late 1;", 1, 23);
        Check.refuses("bench plain 1 10;late 1 1 1;", 1, 26);
        Check.refuses("bench plain 1 10;drop x;", 1, 22);
        Check.refuses("bench plain 1 10;drop 1\n", 1, 24);
    }

    private static void onceMore() {
        Check.refuses("bench plain 1 10;latency 1;latency 2;", 2, 27);
        Check.refuses("bench plain 1 10;timer 1;timer 1;", 2, 25);
        Check.refuses("bench plain 1 10;timer 1;timer", 2, 25);
        Check.refuses("bench plain 1 10;size 1 2;drop 1;size 1 2;", 2, 33);
        Check.refuses("bench plain 1 10;budget 1;budget 999;", 2, 26);
        Check.refuses("bench plain 1 10;timer 1;latency 1;size 1 2;budget 1;timer 1;", 2, 53);
        Check.refuses("bench plain 1 10;latency 1;timer 1;size 1 2;budget 1;latency 1;", 2, 53);
        Check.refuses("bench plain 1 10;drop 1;drop 1;", 2, 29);
        Check.refuses("bench plain 1 10;drop 1;drop 001;", 2, 29);
        Check.refuses("bench plain 1 10;drop 1;drop 1", 2, 29);
        Check.refuses("bench plain 1 10;twice 0;drop 0;twice 0;", 2, 38);
        Check.refuses("bench plain 1 10;late 4 5;late 4 6;", 2, 31);
        Check.refuses("bench plain 1 10;late 4 5;late 4 99;", 2, 31);
        Check.due("three kinds with a number", () -> Check.parse(new FaultBench(),
                "bench plain 1 10;late 4 5;drop 4;twice 4;"), 0);
        // What a text with an error had does not count for the next text.
        FaultBench x = new FaultBench();
        Check.due("first", () -> Check.parse(x, "bench plain 1 10;timer 5;drop 1;?"), 1);
        Check.due("second", () -> Check.parse(x, "bench plain 1 10;timer 5;drop 1;"), 0);
        Check.due("third", () -> Check.parse(x, "bench plain 1 10;timer 5;drop 1;"), 0);
    }

    private static void outOfRange() {
        Check.refuses("bench plain 0 10;", 3, 12);
        Check.refuses("bench plain 9 10;", 3, 12);
        Check.refuses("bench plain 9", 3, 12);
        Check.refuses("bench plain 999 9;", 3, 12);
        Check.refuses("bench plain 1 9;", 3, 14);
        Check.refuses("bench plain 1 201;", 3, 14);
        Check.refuses("bench plain 1 10;latency 0;", 3, 25);
        Check.refuses("bench plain 1 10;latency 6;", 3, 25);
        Check.refuses("bench plain 1 10;timer 0;", 3, 23);
        Check.refuses("bench plain 1 10;timer 21;", 3, 23);
        Check.refuses("bench plain 1 10;size 0 4;", 3, 22);
        Check.refuses("bench plain 1 10;size 5 4;", 3, 22);
        Check.refuses("bench plain 1 10;size 2 1;", 3, 24);
        Check.refuses("bench plain 1 10;size 2 9;", 3, 24);
        Check.refuses("bench plain 1 10;budget 0;", 3, 24);
        Check.refuses("bench plain 1 10;budget 201;", 3, 24);
        Check.refuses("bench plain 1 10;drop 120;", 3, 22);
        Check.refuses("bench plain 1 10;twice 120;", 3, 23);
        Check.refuses("bench plain 1 10;late 120 1;", 3, 22);
        Check.refuses("bench plain 1 10;late 119 0;", 3, 26);
        Check.refuses("bench plain 1 10;late 119 21;", 3, 26);
    }

    private static void tooManyFaults() {
        String ten = "bench plain 1 10;drop 0;drop 1;drop 2;drop 3;drop 4;twice 5;late 6 7;twice 7;twice 8;twice 9;";
        Check.due("ten faults", () -> Check.parse(new FaultBench(), ten), 0);
        Check.refuses(ten + "twice 10;", 4, ten.length());
        Check.refuses(ten + "drop 0;", 4, ten.length());
        Check.refuses(ten + "drop", 4, ten.length());
        Check.refuses(ten + " late 500", 4, ten.length() + 1);
        Check.refuses(ten + "drops 1;", 1, ten.length());
        Check.due("a setting behind ten faults", () -> Check.parse(new FaultBench(), ten + "budget 3;"), 0);
    }

    private static void parseAndTheRest() {
        FaultBench x = Check.bench("bench window 3 40;latency 2;timer 6;size 3 5;budget 30;drop 1;late 3 4;");
        Check.append(x, "bench plain 1 10;");
        Check.raisesArgument("parse(-1)", () -> x.parse(-1));
        Check.raisesArgument("parse(21)", () -> x.parse(21));
        Check.raisesArgument("parse of the greatest", () -> x.parse(Integer.MAX_VALUE));
        Check.raisesArgument("parse of the least", () -> x.parse(Integer.MIN_VALUE));
        Check.due("the buffer stays", () -> x.append(0, 0, 0, 0, 0), 40);
        x.record();
        x.set(4, 7);
        x.saveSnapshot(0);
        int states = x.size(10);
        Check.due("an error", () -> x.parse(10), 1);
        Check.sizes("behind an error", x, 2, 3, 40, 2, 7, 3, 5, 30, 2, 2, states);
        Check.due("the buffer is empty", () -> x.append(0x20202020, 0, 0, 0, 0), 20);
        Check.due("undo behind an error", x::undo, 1);
        Check.due("the snapshot behind an error", () -> x.restoreSnapshot(0), 2);

        x.addFault(0, 9, 0);
        x.saveSnapshot(1);
        Check.due("a success", () -> { x.parse(0); return Check.parse(x, "bench plain 2 12;"); }, 0);
        Check.sizes("behind a success", x, 0, 2, 12, 1, 8, 2, 4, 50, 0, 0, 0);
        Check.due("undo behind a success", x::undo, -1);
        Check.raisesState("slot 0 behind a success", () -> x.restoreSnapshot(0));
        Check.raisesState("slot 1 behind a success", () -> x.restoreSnapshot(1));
        Check.due("slot 1 is new", () -> x.saveSnapshot(1), false);
        Check.due("no state is recorded", () -> x.isRecorded(0, 0), false);
        Check.due("the buffer behind a success", () -> x.append(0, 0, 0, 0, 0), 20);

        // Only the first bytes are the text: what stands behind them is emptied unread.
        FaultBench y = new FaultBench();
        Check.append(y, "bench plain 5 150;????????????????????");
        Check.due("a shorter text", () -> y.parse(18), 0);
        Check.due("its ticks", () -> y.size(2), 150);
        Check.append(y, "bench plain 5 150; ");
        Check.due("a text that ends in a number", () -> y.parse(16), 1);
        Check.due("its position", y::errorPosition, 16);
        Check.append(y, "bench plain 5 150; ");
        Check.due("a text that ends in a short number", () -> y.parse(15), 3);
        Check.due("its position", y::errorPosition, 14);
    }

    private static void errorPosition() {
        FaultBench x = new FaultBench();
        Check.parse(x, "bench plain 0 10;");
        Check.due("behind an error", x::errorPosition, 12);
        Check.raisesArgument("an exception", () -> x.parse(1));
        Check.due("behind an exception", x::errorPosition, 12);
        x.set(1, 2);
        Check.due("behind a change", x::errorPosition, 12);
        x.undo();
        Check.due("behind an undo", x::errorPosition, 12);
        Check.parse(x, "bench plain 1 10;");
        Check.due("behind a success", x::errorPosition, -1);
        Check.raisesArgument("an exception", () -> x.parse(1));
        Check.due("behind an exception", x::errorPosition, -1);
    }

    private static void sizeAndFault() {
        FaultBench x = Check.bench("bench plain 1 10;late 5 20;twice 5;drop 7;");
        Check.raisesArgument("size(-1)", () -> x.size(-1));
        Check.raisesArgument("size(11)", () -> x.size(11));
        Check.raisesArgument("size of the least", () -> x.size(Integer.MIN_VALUE));
        Check.raisesArgument("size of the greatest", () -> x.size(Integer.MAX_VALUE));
        x.record();
        x.record();
        Check.due("size(9)", () -> x.size(9), 2);
        Check.due("size(10)", () -> x.size(10), 2);
        Check.faults("three", x, Check.f(1, 5, 0), Check.f(2, 5, 20), Check.f(0, 7, 0));
        Check.raisesIndex("fault(-1, 0)", () -> x.fault(-1, 0));
        Check.raisesIndex("fault(3, 0)", () -> x.fault(3, 0));
        Check.raisesIndex("fault(3, 3)", () -> x.fault(3, 3));
        Check.raisesIndex("fault of the least", () -> x.fault(Integer.MIN_VALUE, -1));
        Check.raisesArgument("fault(2, 3)", () -> x.fault(2, 3));
        Check.raisesArgument("fault(2, -1)", () -> x.fault(2, -1));
    }
}
