/** What the tests share: comparing answers, and benches from texts. */
final class Check {
    private static int wrong = 0;
    private static int looked = 0;
    private static int sentences = 0;
    private static String sentence = "";

    private Check() {
    }

    interface Call {
        Object run();
    }

    /** Names the sentence of the document that asks for the answers behind it. */
    static void sentence(String words) {
        sentence = words;
        sentences++;
    }

    /** Compares an answer, or the exception's simple name, with the one that is due. */
    static void due(String what, Call call, Object want) {
        Object got;
        try {
            got = call.run();
        } catch (RuntimeException e) {
            got = e.getClass().getSimpleName();
        }
        looked++;
        if (!got.equals(want)) {
            wrong++;
            System.out.println(what + " answered " + got + ", due is " + want);
            if (!sentence.isEmpty()) {
                System.out.println("    as the document says: " + sentence);
            }
        }
    }

    static void raisesArgument(String what, Call call) {
        due(what, call, "IllegalArgumentException");
    }

    static void raisesIndex(String what, Call call) {
        due(what, call, "IndexOutOfBoundsException");
    }

    static void raisesState(String what, Call call) {
        due(what, call, "IllegalStateException");
    }

    static int byteOf(String text, int k) {
        return k < text.length() ? text.charAt(k) & 255 : 32;
    }

    /** Appends a text in 20 bytes each, filled up with spaces. */
    static void append(FaultBench x, String text) {
        for (int k = 0; k < text.length(); k += 20) {
            int[] words = new int[5];
            for (int b = 0; b < 20; b++) {
                words[b / 4] = words[b / 4] << 8 | byteOf(text, k + b);
            }
            x.append(words[0], words[1], words[2], words[3], words[4]);
        }
    }

    static int parse(FaultBench x, String text) {
        append(x, text);
        return x.parse(text.length());
    }

    /** A new object with the bench of a text that has no error. */
    static FaultBench bench(String text) {
        FaultBench x = new FaultBench();
        due("parse " + text, () -> parse(x, text), 0);
        return x;
    }

    static void refuses(String text, int code, int position) {
        FaultBench x = new FaultBench();
        due("parse " + text, () -> parse(x, text), code);
        due("errorPosition behind " + text, x::errorPosition, position);
    }

    static void results(String what, FaultBench x, int... want) {
        for (int k = 0; k < want.length; k++) {
            int part = k;
            due(what + " result(" + k + ")", () -> x.result(part), want[k]);
        }
    }

    static void sizes(String what, FaultBench x, int... want) {
        for (int k = 0; k < want.length; k++) {
            int part = k;
            due(what + " size(" + k + ")", () -> x.size(part), want[k]);
        }
    }

    static void delivers(String what, FaultBench x, int... want) {
        for (int k = 0; k < want.length; k++) {
            int place = k;
            due(what + " delivered(" + k + ")", () -> x.delivered(place), want[k]);
        }
        due(what + " delivered behind the last", () -> x.delivered(want.length), -1);
    }

    static void sent(String what, FaultBench x, int k, int... want) {
        for (int part = 0; part < want.length; part++) {
            int p = part;
            due(what + " sent(" + k + ", " + part + ")", () -> x.sent(k, p), want[part]);
        }
    }

    /** The pairs are those that the run reaches, and no other. */
    static void states(String what, FaultBench x, int[]... want) {
        due(what + " result(6)", () -> x.result(6), want.length);
        for (int sender = 0; sender < 9; sender++) {
            for (int received = 0; received < 16; received++) {
                boolean due = false;
                for (int[] pair : want) {
                    due = due || pair[0] == sender && pair[1] == received;
                }
                int s = sender;
                int r = received;
                due(what + " reaches(" + s + ", " + r + ")", () -> x.reaches(s, r), due);
            }
        }
    }

    static void faults(String what, FaultBench x, int[]... want) {
        due(what + " size(8)", () -> x.size(8), want.length);
        for (int k = 0; k < want.length; k++) {
            for (int part = 0; part < 3; part++) {
                int f = k;
                int p = part;
                due(what + " fault(" + k + ", " + part + ")", () -> x.fault(f, p), want[k][part]);
            }
        }
    }

    /** A state: the sender's number, and how many were delivered. */
    static int[] s(int sender, int received) {
        return new int[] {sender, received};
    }

    static int[] f(int kind, int number, int amount) {
        return new int[] {kind, number, amount};
    }

    static void finish(String test) {
        String named = sentences > 0 ? ", for " + sentences + " sentences" : "";
        System.out.println(test + ": " + looked + " answers, " + wrong + " wrong" + named);
        if (wrong > 0 || looked == 0) {
            System.exit(1);
        }
    }
}
