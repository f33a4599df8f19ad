/** The boundary cases of TEXT and of the promises 1 to 6: a test of its own for each sentence that names one. */
public final class TextBoundaryTest {
    private static final String HEAD = "bench plain 1 10;";
    private static final int H = HEAD.length();
    private static final String TEN = HEAD + "drop 0;twice 0;late 0 1;drop 1;twice 1;late 1 1;drop 2;twice 2;late 2 1;"
            + "drop 119;";
    private static final String[] TOKENS = {"bench", "window", "3", "40", ";", "latency", "2", ";", "timer", "5", ";",
        "size", "3", "4", ";", "budget", "9", ";", "drop", "1", ";", "twice", "2", ";", "late", "3", "4", ";"};
    private static final int SPACES = 0x20202020;
    private static final int LEAST = Integer.MIN_VALUE;
    private static final int GREATEST = Integer.MAX_VALUE;

    public static void main(String[] args) {
        atMost500Bytes();
        separators();
        words();
        numbers();
        longerRuns();
        otherBytes();
        itemsAndTicks();
        settings();
        settingsThatAreLeftOut();
        numbersAndAmounts();
        statementsOnce();
        tenFaults();
        noTwoFaultsTheSame();
        invalidTokens();
        tokensOfAnotherKind();
        wordsOfAnotherPlace();
        textsThatEndTooEarly();
        wordsThatOccurAgain();
        faultsThatOccurAgain();
        numbersOutOfRange();
        eleventhFaults();
        smallestPosition();
        smallestCode();
        positions();
        positionOfTheEnd();
        newObject();
        emptyBuffer();
        fourBytesOfEachArgument();
        newLength();
        nothingBeyond500();
        parseReplaces();
        parseErrorChangesNothing();
        bufferIsEmptied();
        lengthOutOfRange();
        positionOfTheLastParse();
        noPosition();
        sizes();
        sizeOutOfRange();
        orderOfFaults();
        parts();
        noSuchFault();
        partOutOfRange();
        Check.finish("TextBoundaryTest");
    }

    private static void accepts(String text) {
        FaultBench x = new FaultBench();
        Check.due("parse " + text, () -> Check.parse(x, text), 0);
        Check.due("errorPosition behind " + text, x::errorPosition, -1);
    }

    private static String times(int count, String piece) {
        StringBuilder all = new StringBuilder();
        for (int k = 0; k < count; k++) {
            all.append(piece);
        }
        return all.toString();
    }

    private static int spaces(FaultBench x) {
        return x.append(SPACES, SPACES, SPACES, SPACES, SPACES);
    }

    // ---- TEXT

    private static void atMost500Bytes() {
        Check.sentence("A bench is described by a text of at most 500 bytes.");
        String full = HEAD + times(500 - H - 12, "\n") + "late 119 20;";
        Check.due("its length", full::length, 500);
        Check.faults("a full text", Check.bench(full), Check.f(2, 119, 20));
        Check.refuses(full.substring(0, 499), 1, 499);
        Check.refuses(full.substring(0, 499) + "?", 1, 499);
        Check.refuses(full.substring(0, 499) + " ", 1, 500);
        accepts(times(500 - H, " ") + HEAD);
        accepts(HEAD + times(500 - H, " "));
        Check.refuses(times(500, " "), 1, 500);
        Check.refuses(times(500, "a"), 1, 0);
        Check.refuses(times(500, "1"), 1, 0);
        Check.refuses(times(500, ";"), 1, 0);
    }

    private static void separators() {
        Check.sentence("Spaces (byte 32) and line feeds (byte 10) separate tokens and are otherwise ignored.");
        for (int value = 0; value < 256; value++) {
            String sign = String.valueOf((char) value);
            if (value == 32 || value == 10) {
                accepts("bench" + sign + "plain" + sign + "1" + sign + "10;");
                accepts(sign + sign + HEAD + sign);
            } else {
                // A letter makes one run of the two words.
                Check.refuses("bench" + sign + "plain 1 10;", 1, value >= 97 && value <= 122 ? 0 : 5);
                Check.refuses(HEAD + sign, 1, H);
            }
        }
        accepts("bench\n \nplain \n 8\n\n200 \n;\n");
        accepts("bench plain1 10;drop1;late2 3;");
        Check.refuses("be nch plain 1 10;", 1, 0);
        Check.refuses("bench pla\nin 1 10;", 1, 6);
        Check.refuses("bench plain 1 1 0;", 3, 14);
        Check.refuses("bench plain 1 1\n0;", 3, 14);
    }

    private static void words() {
        Check.sentence("A token is a word (a maximal run of letters a to z, 1 to 9 letters)");
        accepts("bench alternate 1 10;");
        Check.refuses("bench alternates 1 10;", 1, 6);
        Check.refuses("bench alternat 1 10;", 1, 6);
        Check.refuses("bench a 1 10;", 1, 6);
        Check.refuses("bench plainlate 1 10;", 1, 6);
        Check.refuses("benchplain 1 10;", 1, 0);
        Check.refuses("b ench plain 1 10;", 1, 0);
        Check.refuses(HEAD + "z;", 1, H);
        // The bytes beside a and z, and capitals, are no letters: the word ends ahead of them.
        for (String sign : new String[] {"`", "{", "A", "Z", "@", "["}) {
            Check.refuses("bench" + sign + " plain 1 10;", 1, 5);
            Check.refuses("bench plain" + sign + " 1 10;", 1, 11);
        }
    }

    private static void numbers() {
        Check.sentence("a number (a maximal run of digits, 1 to 3 digits) or a semicolon.");
        accepts("bench plain 1 010;");
        accepts("bench plain 01 10;");
        accepts("bench plain 001 200;");
        Check.refuses("bench plain 0001 10;", 1, 12);
        Check.refuses("bench plain 1 0010;", 1, 14);
        Check.faults("zeros ahead", Check.bench(HEAD + "drop 000;drop 009;drop 10;"),
                Check.f(0, 0, 0), Check.f(0, 9, 0), Check.f(0, 10, 0));
        // The bytes beside 0 and 9 are no digits.
        Check.refuses("bench plain 1/ 10;", 1, 13);
        Check.refuses("bench plain 1: 10;", 1, 13);
        Check.refuses("bench plain /1 10;", 1, 12);
        Check.refuses("bench plain 1 10:", 1, 16);
        accepts("bench plain 1 10 ; drop 1\n;");
    }

    private static void longerRuns() {
        Check.sentence("A longer run, and any other byte, is an invalid token. (a longer run)");
        for (int letters = 10; letters <= 30; letters++) {
            Check.refuses(HEAD + times(letters, "q"), 1, H);
        }
        for (int digits = 4; digits <= 30; digits++) {
            Check.refuses("bench plain " + times(digits, "0") + "1 10;", 1, 12);
            Check.refuses("bench plain 1 " + times(digits, "0"), 1, 14);
            Check.refuses(HEAD + "drop " + times(digits, "9") + ";", 1, H + 5);
        }
        // 2 to the power of 32, plus 1: a number that wraps around to 1.
        Check.refuses("bench plain 4294967297 10;", 1, 12);
        Check.refuses(HEAD + "latencylate 1;", 1, H);
    }

    private static void otherBytes() {
        Check.sentence("A longer run, and any other byte, is an invalid token. (any other byte)");
        for (int value = 0; value < 256; value++) {
            boolean isLetter = value >= 97 && value <= 122;
            boolean isDigit = value >= 48 && value <= 57;
            if (isLetter || isDigit || value == 32 || value == 10 || value == 59) {
                continue;
            }
            String sign = String.valueOf((char) value);
            Check.refuses(sign + HEAD, 1, 0);
            Check.refuses("bench plain " + sign + "1 10;", 1, 12);
            Check.refuses("bench plain 1" + sign + " 10;", 1, 13);
            Check.refuses("bench plain 1 10" + sign, 1, 16);
            Check.refuses(HEAD + "drop 1;" + sign, 1, H + 7);
        }
    }

    private static void itemsAndTicks() {
        Check.sentence("items is 1 to 8, ticks 10 to 200.");
        Check.sizes("the least", Check.bench("bench plain 1 10;"), 0, 1, 10);
        Check.sizes("the most", Check.bench("bench plain 8 200;"), 0, 8, 200);
        Check.refuses("bench plain 0 10;", 3, 12);
        Check.refuses("bench plain 9 10;", 3, 12);
        Check.refuses("bench plain 000 10;", 3, 12);
        Check.refuses("bench plain 999 10;", 3, 12);
        Check.refuses("bench plain 1 9;", 3, 14);
        Check.refuses("bench plain 1 0;", 3, 14);
        Check.refuses("bench plain 1 201;", 3, 14);
        Check.refuses("bench plain 1 999;", 3, 14);
    }

    private static void settings() {
        Check.sentence("The latency is 1 to 5 (1 without the statement), the timer 1 to 20 (8), the size has a window of "
                + "1 to 4 and a modulus of 2 to 8 (2 and 4), the budget is 1 to 200 (50).");
        setting("latency ", "", 3, 1, 5);
        setting("timer ", "", 4, 1, 20);
        setting("size ", " 4", 5, 1, 4);
        setting("size 2 ", "", 6, 2, 8);
        setting("budget ", "", 7, 1, 200);
    }

    private static void setting(String ahead, String behind, int what, int least, int most) {
        int place = H + ahead.length();
        for (int value = 0; value < 1000; value++) {
            String text = HEAD + ahead + value + behind + ";";
            if (value >= least && value <= most) {
                int v = value;
                FaultBench x = Check.bench(text);
                Check.due(text, () -> x.size(what), v);
            } else {
                Check.refuses(text, 3, place);
            }
        }
    }

    private static void settingsThatAreLeftOut() {
        Check.sentence("The latency is 1 to 5 (1 without the statement) .. (8) .. (2 and 4) .. (50).");
        Check.sizes("none", Check.bench("bench window 3 40;"), 2, 3, 40, 1, 8, 2, 4, 50, 0, 0, 0);
        Check.sizes("latency", Check.bench("bench window 3 40;latency 5;"), 2, 3, 40, 5, 8, 2, 4, 50);
        Check.sizes("timer", Check.bench("bench window 3 40;timer 20;"), 2, 3, 40, 1, 20, 2, 4, 50);
        Check.sizes("size", Check.bench("bench window 3 40;size 4 8;"), 2, 3, 40, 1, 8, 4, 8, 50);
        Check.sizes("budget", Check.bench("bench window 3 40;budget 200;"), 2, 3, 40, 1, 8, 2, 4, 200);
        // What an earlier text said does not stay.
        FaultBench x = Check.bench("bench window 8 200;latency 5;timer 20;size 4 8;budget 200;drop 1;");
        Check.due("another text", () -> Check.parse(x, "bench window 3 40;"), 0);
        Check.sizes("another text", x, 2, 3, 40, 1, 8, 2, 4, 50, 0, 0, 0);
    }

    private static void numbersAndAmounts() {
        Check.sentence("The number of a fault is that of a transmission, 0 to 119; the amount is 1 to 20.");
        String[] words = {"drop ", "twice ", "late "};
        for (int kind = 0; kind < 3; kind++) {
            String behind = kind == 2 ? " 7;" : ";";
            for (int number = 0; number < 1000; number++) {
                String text = HEAD + words[kind] + number + behind;
                if (number < 120) {
                    Check.faults(text, Check.bench(text), Check.f(kind, number, kind == 2 ? 7 : 0));
                } else {
                    Check.refuses(text, 3, H + words[kind].length());
                }
            }
        }
        for (int amount = 0; amount < 1000; amount++) {
            String text = HEAD + "late 119 " + amount + ";";
            if (amount >= 1 && amount <= 20) {
                Check.faults(text, Check.bench(text), Check.f(2, 119, amount));
            } else {
                Check.refuses(text, 3, H + 9);
            }
        }
    }

    private static void statementsOnce() {
        Check.sentence("Each of the first four statements can occur once");
        String[] statements = {"latency 2;", "timer 3;", "size 3 5;", "budget 7;"};
        int[] lengths = {10, 8, 9, 9};
        for (int first = 0; first < 4; first++) {
            StringBuilder all = new StringBuilder(HEAD).append("drop 1;");
            for (int k = 0; k < 4; k++) {
                all.append(statements[(first + k) % 4]).append("twice ").append(k).append(';');
            }
            Check.sizes("all four", Check.bench(all.toString()), 0, 1, 10, 2, 3, 3, 5, 7, 5);
            for (int again = 0; again < 4; again++) {
                Check.refuses(all + statements[again], 2, all.length());
            }
            Check.refuses(HEAD + statements[first] + statements[first], 2, H + lengths[first]);
        }
        accepts(TEN + "budget 1;size 1 2;timer 1;latency 1;");
    }

    private static void tenFaults() {
        Check.sentence("there are at most 10 faults");
        Check.due("ten", () -> Check.bench(TEN).size(8), 10);
        Check.refuses(TEN + "drop 118;", 4, TEN.length());
        Check.refuses(TEN + "twice 119;", 4, TEN.length());
        Check.refuses(TEN + "late 119 20;", 4, TEN.length());
        Check.due("nine", () -> Check.bench(TEN.substring(0, TEN.length() - 9)).size(8), 9);
        Check.due("one", () -> Check.bench(HEAD + "drop 0;").size(8), 1);
        Check.due("none", () -> Check.bench(HEAD).size(8), 0);
    }

    private static void noTwoFaultsTheSame() {
        Check.sentence("no two of the same kind with the same number.");
        Check.faults("three kinds with a number", Check.bench(HEAD + "late 0 20;twice 0;drop 0;"), Check.f(0, 0, 0),
                Check.f(1, 0, 0), Check.f(2, 0, 20));
        Check.faults("a kind with three numbers", Check.bench(HEAD + "late 119 1;late 0 1;late 1 1;"),
                Check.f(2, 0, 1), Check.f(2, 1, 1), Check.f(2, 119, 1));
        Check.refuses(HEAD + "drop 0;drop 0;", 2, H + 12);
        Check.refuses(HEAD + "twice 119;twice 119;", 2, H + 16);
        Check.refuses(HEAD + "late 5 1;late 5 1;", 2, H + 14);
        Check.refuses(HEAD + "late 5 1;late 5 2;", 2, H + 14);
    }

    // ---- the errors

    private static int placeOf(int token) {
        int place = 0;
        for (int k = 0; k < token; k++) {
            place += TOKENS[k].length() + 1;
        }
        return place;
    }

    private static String textWith(int token, String other) {
        StringBuilder text = new StringBuilder();
        for (int k = 0; k < TOKENS.length; k++) {
            text.append(k == token ? other : TOKENS[k]).append(' ');
        }
        return text.toString();
    }

    private static char kindOf(String token) {
        char first = token.charAt(0);
        return first == ';' ? ';' : first <= '9' ? '0' : 'a';
    }

    private static void invalidTokens() {
        Check.sentence("1: an invalid token");
        accepts(textWith(0, TOKENS[0]));
        for (int k = 0; k < TOKENS.length; k++) {
            for (String bad : new String[] {"abcdefghij", "0001", "?", "\0", "\u00ff", "\t"}) {
                Check.refuses(textWith(k, bad), 1, placeOf(k));
            }
        }
        Check.refuses(textWith(-1, "") + "?", 1, placeOf(TOKENS.length));
    }

    private static void tokensOfAnotherKind() {
        Check.sentence("1: .. a token that the grammar does not allow at this place");
        for (int k = 0; k < TOKENS.length; k++) {
            for (String other : new String[] {"plain", "drop", "timer", "3", "999", ";"}) {
                if (kindOf(other) != kindOf(TOKENS[k])) {
                    Check.refuses(textWith(k, other), 1, placeOf(k));
                }
            }
        }
        for (String other : new String[] {"plain", "bench", "7", "999", ";"}) {
            Check.refuses(textWith(-1, "") + other, 1, placeOf(TOKENS.length));
        }
    }

    private static void wordsOfAnotherPlace() {
        Check.sentence("1: .. a token that the grammar does not allow at this place (a word of another place)");
        String[] words = {"bench", "plain", "alternate", "window", "latency", "timer", "size", "budget", "drop", "twice",
            "late", "items", "ticks", "amount", "number", "x"};
        for (int k = 0; k < words.length; k++) {
            boolean isProtocol = k >= 1 && k <= 3;
            if (k != 0) {
                Check.refuses(textWith(0, words[k]), 1, 0);
            }
            if (!isProtocol) {
                Check.refuses(textWith(1, words[k]), 1, 6);
            }
            if (k < 4 || k > 10) {
                Check.refuses(HEAD + words[k] + " 1;", 1, H);
                Check.refuses(TEN + words[k] + " 1;", 1, TEN.length());
            }
        }
    }

    private static void textsThatEndTooEarly() {
        Check.sentence("1: .. or a text that ends too early.");
        StringBuilder text = new StringBuilder();
        for (int k = 0; k <= TOKENS.length; k++) {
            String start = text.toString();
            boolean isWhole = k >= 5 && TOKENS[k - 1].equals(";");
            for (String end : new String[] {"", " ", "\n\n"}) {
                if (isWhole) {
                    accepts(start + end);
                } else {
                    Check.refuses(start + end, 1, start.length() + end.length());
                }
            }
            if (k < TOKENS.length) {
                text.append(text.length() > 0 ? " " : "").append(TOKENS[k]);
            }
        }
    }

    private static void wordsThatOccurAgain() {
        Check.sentence("2: the word of a statement that can occur once, when it occurs again");
        String[] words = {"latency", "timer", "size", "budget"};
        String[] good = {"latency 5;", "timer 20;", "size 4 8;", "budget 200;"};
        for (int k = 0; k < 4; k++) {
            String text = HEAD + good[k];
            Check.refuses(text + good[k], 2, text.length());
            Check.refuses(text + "\n " + words[k], 2, text.length() + 2);
            Check.refuses(text + words[k] + ";", 2, text.length());
            Check.refuses(text + words[k] + " 999;", 2, text.length());
            Check.refuses(text + words[k] + "?", 2, text.length());
            Check.refuses(text + good[(k + 1) % 4] + good[k] + good[k], 2, text.length() + good[(k + 1) % 4].length());
        }
    }

    private static void faultsThatOccurAgain() {
        Check.sentence("2: .. the number of a fault if there is one of this kind with this number.");
        Check.refuses(HEAD + "drop 0;drop 0;", 2, H + 12);
        Check.refuses(HEAD + "drop 0;drop 000;", 2, H + 12);
        Check.refuses(HEAD + "drop 119;drop\n\n119", 2, H + 15);
        Check.refuses(HEAD + "twice 7;drop 7;late 7 7;twice 7;", 2, H + 30);
        Check.refuses(HEAD + "late 7 1;drop 7;late 7;", 2, H + 21);
        Check.refuses(HEAD + "late 7 1;late 7 0;", 2, H + 14);
        // Of ten faults the last one too.
        Check.refuses(TEN.substring(0, TEN.length() - 9) + "late 2 20;", 2, TEN.length() - 4);
        accepts(HEAD + "late 7 7;late 8 7;drop 8;");
    }

    private static void numbersOutOfRange() {
        Check.sentence("3: a number out of its range.");
        int[] places = {2, 3, 6, 9, 12, 13, 16, 19, 22, 25, 26};
        int[] least = {1, 10, 1, 1, 1, 2, 1, 0, 0, 0, 1};
        int[] most = {8, 200, 5, 20, 4, 8, 200, 119, 119, 119, 20};
        for (int k = 0; k < places.length; k++) {
            int place = placeOf(places[k]);
            accepts(textWith(places[k], String.valueOf(least[k])));
            accepts(textWith(places[k], String.valueOf(most[k])));
            Check.refuses(textWith(places[k], String.valueOf(most[k] + 1)), 3, place);
            Check.refuses(textWith(places[k], "999"), 3, place);
            if (least[k] > 0) {
                Check.refuses(textWith(places[k], String.valueOf(least[k] - 1)), 3, place);
                Check.refuses(textWith(places[k], "000"), 3, place);
            }
        }
    }

    private static void eleventhFaults() {
        Check.sentence("4: the word of an eleventh fault.");
        for (String word : new String[] {"drop", "twice", "late"}) {
            Check.refuses(TEN + word, 4, TEN.length());
            Check.refuses(TEN + " \n" + word + " 0;", 4, TEN.length() + 2);
            Check.refuses(TEN + word + " 999;", 4, TEN.length());
            Check.refuses(TEN + word + ";", 4, TEN.length());
            Check.refuses(TEN + "timer 3;" + word + " 50;", 4, TEN.length() + 8);
        }
        // A refused eleventh does not count for the next text.
        FaultBench x = new FaultBench();
        Check.due("eleven", () -> Check.parse(x, TEN + "drop 50;"), 4);
        Check.due("ten", () -> Check.parse(x, TEN), 0);
        Check.due("ten again", () -> Check.parse(x, TEN), 0);
    }

    private static void smallestPosition() {
        Check.sentence("The error with the smallest position is reported.");
        Check.refuses("?bench plain 0 10;", 1, 0);
        Check.refuses("bench plain 0 9;?", 3, 12);
        Check.refuses("bench plain 9", 3, 12);
        Check.refuses("bench plain 1 9;timer 0;", 3, 14);
        Check.refuses(HEAD + "timer 0;timer 0;", 3, H + 6);
        Check.refuses(HEAD + "timer 1;timer 0;", 2, H + 8);
        Check.refuses(HEAD + "size 5 1;", 3, H + 5);
        Check.refuses(HEAD + "late 120 21;", 3, H + 5);
        Check.refuses(HEAD + "late 119 21?", 3, H + 9);
        Check.refuses(HEAD + "drop 7;drop 7 7;", 2, H + 12);
        Check.refuses(HEAD + "late 7 1;late 7 21;", 2, H + 14);
        Check.refuses(HEAD + "drop 7;drop 7;timer", 2, H + 12);
        Check.refuses(TEN + "drop 0;", 4, TEN.length());
        Check.refuses(TEN + "drop 120;", 4, TEN.length());
        Check.refuses(TEN + "?drop 3;", 1, TEN.length());
        Check.refuses(TEN + "timer 21;drop 3;", 3, TEN.length() + 6);
    }

    private static void smallestCode() {
        Check.sentence("If several codes apply at one position, the smallest is reported.");
        // 1 and 2: the word occurs again, and is not allowed there.
        Check.refuses(HEAD + "timer 1 timer 1;", 1, H + 8);
        Check.refuses(HEAD + "timer 1;size timer 1;", 1, H + 13);
        Check.refuses(HEAD + "drop 1;drop 0001;", 1, H + 12);
        Check.refuses(HEAD + "drop 1;twice 2 1;", 1, H + 15);
        // 1 and 3: the number is out of every range, and is not allowed there, or too long.
        Check.refuses("bench plain 1 10 999;", 1, 17);
        Check.refuses("bench plain 1000 10;", 1, 12);
        Check.refuses("999 plain 1 10;", 1, 0);
        Check.refuses(HEAD + "999;", 1, H);
        Check.refuses(HEAD + "drop 1 999;", 1, H + 7);
        Check.refuses(HEAD + "timer 0000;", 1, H + 6);
        Check.refuses(HEAD + "late 1200 1;", 1, H + 5);
        // 1 and 4: the word of an eleventh fault, where a semicolon or a number is asked.
        String open = TEN.substring(0, TEN.length() - 1);
        Check.refuses(open + " drop 5;", 1, open.length() + 1);
        Check.refuses(TEN + "timer drop 5;", 1, TEN.length() + 6);
    }

    private static void positions() {
        Check.sentence("The position of an error is the index of the first byte of its token");
        Check.refuses("  \n\n  abcdefghij", 1, 6);
        Check.refuses("bench plain 1 10  \n  x", 1, 21);
        Check.refuses("bench plain 1 10;   12345", 1, 20);
        Check.refuses("bench plain   009 10;", 3, 14);
        Check.refuses("bench plain 1\n\n\n201;", 3, 16);
        Check.refuses(HEAD + "timer 1;\n\n\ntimer 1;", 2, H + 11);
        Check.refuses(HEAD + "drop 1;drop    001;", 2, H + 15);
        Check.refuses(TEN + "\n\n\ntwice 1;", 4, TEN.length() + 3);
        Check.refuses("x", 1, 0);
        Check.refuses(times(499, "\n") + "x", 1, 499);
    }

    private static void positionOfTheEnd() {
        Check.sentence("if the text ends too early, it is the length of the text.");
        for (int length = 0; length <= 500; length++) {
            Check.refuses(times(length, " "), 1, length);
        }
        // The length is that of the text, not that of the buffer.
        FaultBench x = new FaultBench();
        Check.append(x, "bench plain 1 10;");
        Check.due("ahead of the semicolon", () -> x.parse(16), 1);
        Check.due("ahead of the semicolon", x::errorPosition, 16);
        Check.append(x, "bench plain 1 10;");
        Check.due("behind the first word", () -> x.parse(6), 1);
        Check.due("behind the first word", x::errorPosition, 6);
        Check.append(x, "bench plain 1 10;");
        Check.due("in the first word", () -> x.parse(3), 1);
        Check.due("in the first word", x::errorPosition, 0);
    }

    // ---- promises 1 to 6

    private static void newObject() {
        Check.sentence("Promise 1: Creates a bench as with the text \"bench plain 1 10;\"");
        FaultBench x = new FaultBench();
        FaultBench y = Check.bench("bench plain 1 10;");
        for (FaultBench one : new FaultBench[] {x, y}) {
            Check.sizes("new", one, 0, 1, 10, 1, 8, 2, 4, 50, 0, 0, 0);
            Check.results("new", one, 2, 1, 1, 1, 0, 0, 2, 0);
            Check.delivers("new", one, 0);
            Check.sent("new", one, 0, 0, 0, 0, 1, -1);
            Check.sent("new", one, 1, -1, -1, -1, -1, -1);
            Check.faults("new", one);
            Check.due("no undo", one::undo, -1);
            Check.raisesState("no snapshot 0", () -> one.restoreSnapshot(0));
            Check.raisesState("no snapshot 1", () -> one.restoreSnapshot(1));
            Check.due("no error", one::errorPosition, -1);
        }
    }

    private static void emptyBuffer() {
        Check.sentence("Promise 1: .. with an empty input buffer.");
        FaultBench x = new FaultBench();
        Check.raisesArgument("parse(1)", () -> x.parse(1));
        Check.raisesArgument("parse(17)", () -> x.parse(17));
        Check.due("parse(0)", () -> x.parse(0), 1);
        Check.due("its position", x::errorPosition, 0);
        Check.due("append", () -> spaces(x), 20);
    }

    private static void fourBytesOfEachArgument() {
        Check.sentence("Promise 2: the four bytes of each argument, the most significant byte first.");
        for (int bad : new int[] {0, 1, 127, 128, 255}) {
            for (int k = 0; k < 20; k++) {
                int[] words = {SPACES, SPACES, SPACES, SPACES, SPACES};
                int shift = 24 - 8 * (k % 4);
                words[k / 4] = words[k / 4] & ~(255 << shift) | bad << shift;
                int place = k;
                FaultBench x = new FaultBench();
                Check.due("append", () -> x.append(words[0], words[1], words[2], words[3], words[4]), 20);
                Check.due("the byte " + bad + " at " + k, () -> x.parse(20), 1);
                Check.due("its position", x::errorPosition, place);
            }
        }
        FaultBench x = new FaultBench();
        Check.due("the least and the greatest", () -> x.append(LEAST, GREATEST, -1, 0, LEAST), 20);
        Check.due("the byte 128", () -> x.parse(20), 1);
        Check.due("the byte 128", x::errorPosition, 0);
        // Of several calls too: the second one's bytes are those from 20 on.
        FaultBench y = new FaultBench();
        y.append(SPACES, SPACES, SPACES, SPACES, 0x20206265);
        y.append(0x6e636820, 0x706c6169, 0x6e203720, 0x39393b20, SPACES);
        Check.due("over two calls", () -> y.parse(40), 0);
        Check.sizes("over two calls", y, 0, 7, 99);
    }

    private static void newLength() {
        Check.sentence("Promise 2: Returns the new length of the buffer");
        FaultBench x = new FaultBench();
        for (int k = 1; k <= 25; k++) {
            int length = 20 * k;
            Check.due("append", () -> x.append(0, LEAST, GREATEST, -1, SPACES), length);
        }
    }

    private static void nothingBeyond500() {
        Check.sentence("Promise 2: NONE, with nothing appended, if it would exceed 500.");
        FaultBench x = new FaultBench();
        for (int k = 0; k < 24; k++) {
            spaces(x);
        }
        Check.due("up to 500", () -> x.append(0x62656e63, 0x6820706c, 0x61696e20, 0x38203939, 0x3b202020), 500);
        for (int k = 0; k < 5; k++) {
            Check.due("beyond 500", () -> x.append(-1, -1, -1, -1, -1), -1);
        }
        Check.raisesArgument("parse(501)", () -> x.parse(501));
        Check.raisesArgument("parse(520)", () -> x.parse(520));
        Check.due("parse(500)", () -> x.parse(500), 0);
        Check.sizes("its bench", x, 0, 8, 99);
        Check.due("from the start again", () -> spaces(x), 20);
    }

    private static void parseReplaces() {
        Check.sentence("Promise 3: On success the described bench replaces the current one, and no states are recorded.");
        FaultBench x = Check.bench("bench window 8 200;latency 5;timer 20;size 4 8;budget 200;" + TEN.substring(H));
        x.record();
        Check.due("states", () -> x.size(10) > 0, true);
        x.saveSnapshot(0);
        x.saveSnapshot(1);
        Check.due("another text", () -> Check.parse(x, HEAD), 0);
        Check.sizes("another text", x, 0, 1, 10, 1, 8, 2, 4, 50, 0, 0, 0);
        for (int sender = 0; sender <= 8; sender++) {
            for (int received = 0; received <= 15; received++) {
                int s = sender;
                int r = received;
                Check.due("isRecorded(" + s + ", " + r + ")", () -> x.isRecorded(s, r), false);
            }
        }
        // The same text once more clears too.
        x.record();
        Check.due("the same text", () -> Check.parse(x, HEAD), 0);
        Check.due("no states", () -> x.size(10), 0);
        Check.due("no changes", () -> x.size(9), 0);
    }

    private static void parseErrorChangesNothing() {
        Check.sentence("Promise 3: On a parse error nothing changes except that the whole buffer is emptied");
        String[] bad = {"", "bench", "bench plain 1", "bench plain 1 10;drop 5;drop 5;", "bench plain 0 10;",
            TEN + "drop 5;", "bench plain 1 10;timer 1;?"};
        int[] codes = {1, 1, 1, 2, 3, 4, 1};
        FaultBench x = Check.bench("bench window 3 40;latency 2;timer 6;size 3 5;budget 30;drop 1;late 3 4;");
        int states = x.record();
        x.set(4, 7);
        x.saveSnapshot(1);
        x.clearFaults();
        for (int k = 0; k < bad.length; k++) {
            String text = bad[k];
            int code = codes[k];
            Check.due("parse " + text, () -> Check.parse(x, text), code);
            Check.sizes("behind it", x, 2, 3, 40, 2, 7, 3, 5, 30, 0, 3, states);
        }
        Check.raisesState("slot 0 is empty", () -> x.restoreSnapshot(0));
        Check.due("undo", x::undo, 2);
        Check.faults("undone", x, Check.f(0, 1, 0), Check.f(2, 3, 4));
        Check.due("undo", x::undo, 1);
        Check.due("undo", x::undo, 0);
        Check.due("slot 1 is there", () -> x.restoreSnapshot(1), 2);
        Check.sizes("restored", x, 2, 3, 40, 2, 7, 3, 5, 30, 2, 0, states);
    }

    private static void bufferIsEmptied() {
        Check.sentence("Promise 3: the whole buffer is emptied; it is also empty after a success.");
        FaultBench x = new FaultBench();
        for (int length : new int[] {0, 1, 17, 20, 480, 500}) {
            for (int k = 0; k < 25; k++) {
                spaces(x);
            }
            Check.due("an error", () -> x.parse(length), 1);
            Check.raisesArgument("parse(1) behind an error", () -> x.parse(1));
            Check.append(x, HEAD + times(480, "?"));
            Check.due("a success", () -> x.parse(17), 0);
            Check.raisesArgument("parse(1) behind a success", () -> x.parse(1));
            Check.due("append", () -> spaces(x), 20);
            x.parse(0);
        }
    }

    private static void lengthOutOfRange() {
        Check.sentence("Promise 3: length: 0 to the length of the buffer. Throws IllegalArgumentException if length is "
                + "out of range");
        FaultBench x = new FaultBench();
        Check.parse(x, "?");
        for (int held = 0; held <= 500; held += 20) {
            for (int length : new int[] {-1, held + 1, held + 20, LEAST, GREATEST}) {
                Check.raisesArgument("parse(" + length + ") of " + held, () -> x.parse(length));
            }
            int due = held < 500 ? held + 20 : -1;
            Check.due("the buffer stays", () -> spaces(x), due);
        }
        Check.due("the position stays", x::errorPosition, 0);
        Check.due("parse(500)", () -> x.parse(500), 1);
        Check.due("parse(0)", () -> x.parse(0), 1);
    }

    private static void positionOfTheLastParse() {
        Check.sentence("Promise 4: Returns the position of the parse error of the last call of parse that did not throw an "
                + "exception.");
        FaultBench x = new FaultBench();
        Check.due("an error", () -> Check.parse(x, "bench plain 1 10;drop 120;"), 3);
        Check.due("its position", x::errorPosition, 22);
        Check.raisesArgument("parse(1)", () -> x.parse(1));
        Check.due("behind an exception", x::errorPosition, 22);
        x.set(1, 3);
        x.saveSnapshot(0);
        x.undo();
        x.restoreSnapshot(0);
        Check.due("behind other calls", x::errorPosition, 22);
        Check.due("another error", () -> x.parse(0), 1);
        Check.due("its position", x::errorPosition, 0);
        Check.due("the last byte", () -> Check.parse(x, times(499, " ") + "?"), 1);
        Check.due("its position", x::errorPosition, 499);
        Check.due("behind the last byte", () -> Check.parse(x, times(500, " ")), 1);
        Check.due("its position", x::errorPosition, 500);
    }

    private static void noPosition() {
        Check.sentence("Promise 4: NONE if that call succeeded or there was none.");
        FaultBench x = new FaultBench();
        Check.due("there was none", x::errorPosition, -1);
        Check.raisesArgument("parse(1)", () -> x.parse(1));
        Check.due("there was an exception alone", x::errorPosition, -1);
        Check.due("an error", () -> x.parse(0), 1);
        Check.due("a success", () -> Check.parse(x, HEAD), 0);
        Check.due("it succeeded", x::errorPosition, -1);
        Check.raisesArgument("parse(-1)", () -> x.parse(-1));
        Check.due("it succeeded, then an exception", x::errorPosition, -1);
    }

    private static void sizes() {
        Check.sentence("Promise 5: Returns a count or a setting.");
        FaultBench x = Check.bench(TEN);
        Check.due("ten faults", () -> x.size(8), 10);
        x.removeFault(9);
        Check.due("nine faults", () -> x.size(8), 9);
        x.clearFaults();
        Check.due("no faults", () -> x.size(8), 0);
        for (int k = 3; k <= 12; k++) {
            Check.due("record", x::record, k == 3 ? 2 : 0);
            int due = Math.min(10, k);
            Check.due("changes", () -> x.size(9), due);
            Check.due("states", () -> x.size(10), 2);
        }
        for (int k = 9; k >= 0; k--) {
            x.undo();
            int due = k;
            Check.due("changes", () -> x.size(9), due);
        }
        x.undo();
        Check.due("no changes", () -> x.size(9), 0);
        // plain with 8 items: senders 1 to 8, and what comes twice goes up to 16, of which 15 count.
        FaultBench y = Check.bench("bench plain 8 60;twice 0;twice 1;twice 2;twice 3;twice 4;twice 5;twice 6;twice 7;");
        y.record();
        Check.due("states of plain", () -> y.size(10), 9);
        y.clearFaults();
        y.record();
        Check.due("states of both", () -> y.size(10), 16);
    }

    private static void sizeOutOfRange() {
        Check.sentence("Promise 5: Throws IllegalArgumentException if what is out of range");
        FaultBench x = new FaultBench();
        for (int what : new int[] {-1, 11, 12, 16, 32, LEAST, LEAST + 1, GREATEST}) {
            Check.raisesArgument("size(" + what + ")", () -> x.size(what));
        }
        Check.due("size(0)", () -> x.size(0), 0);
        Check.due("size(10)", () -> x.size(10), 0);
    }

    private static void orderOfFaults() {
        Check.sentence("Promise 6: Faults are in the order of their numbers, those with the same number in the order of "
                + "their kinds.");
        FaultBench x = Check.bench(HEAD + "late 119 20;twice 119;drop 119;drop 118;late 1 2;twice 1;drop 1;late 0 1;"
                + "twice 0;drop 0;");
        Check.faults("backwards", x, Check.f(0, 0, 0), Check.f(1, 0, 0), Check.f(2, 0, 1), Check.f(0, 1, 0),
                Check.f(1, 1, 0), Check.f(2, 1, 2), Check.f(0, 118, 0), Check.f(0, 119, 0), Check.f(1, 119, 0),
                Check.f(2, 119, 20));
        // A kind of 2 with a lower number stands ahead of a kind of 0 with a higher one; 9 ahead of 10 and 100.
        Check.faults("by numbers", Check.bench(HEAD + "drop 100;drop 10;twice 9;late 8 1;"), Check.f(2, 8, 1),
                Check.f(1, 9, 0), Check.f(0, 10, 0), Check.f(0, 100, 0));
    }

    private static void parts() {
        Check.sentence("Promise 6: part: .. 2 its amount (0 for the other kinds)");
        FaultBench x = Check.bench(HEAD + "late 3 20;drop 3;twice 3;late 4 1;");
        Check.faults("amounts", x, Check.f(0, 3, 0), Check.f(1, 3, 0), Check.f(2, 3, 20), Check.f(2, 4, 1));
        // The place of a late one is taken by others: nothing of its amount stays.
        x.removeFault(2);
        x.removeFault(2);
        x.addFault(1, 5, 0);
        x.addFault(0, 6, 0);
        Check.faults("others", x, Check.f(0, 3, 0), Check.f(1, 3, 0), Check.f(1, 5, 0), Check.f(0, 6, 0));
    }

    private static void noSuchFault() {
        Check.sentence("Promise 6: Throws IndexOutOfBoundsException if there is no such fault (checked first)");
        FaultBench x = new FaultBench();
        FaultBench y = Check.bench(TEN);
        for (int part : new int[] {-1, 0, 2, 3, LEAST, GREATEST}) {
            Check.raisesIndex("none: fault(0, " + part + ")", () -> x.fault(0, part));
            for (int fault : new int[] {-1, 10, 11, LEAST, GREATEST}) {
                Check.raisesIndex("ten: fault(" + fault + ", " + part + ")", () -> y.fault(fault, part));
            }
        }
        Check.due("the tenth", () -> y.fault(9, 1), 119);
        y.removeFault(0);
        Check.raisesIndex("nine: fault(9, 1)", () -> y.fault(9, 1));
        Check.due("nine: fault(8, 1)", () -> y.fault(8, 1), 119);
    }

    private static void partOutOfRange() {
        Check.sentence("Promise 6: Throws IllegalArgumentException if part is out of range");
        FaultBench x = Check.bench(TEN);
        for (int part : new int[] {-1, 3, 4, 32, LEAST, GREATEST}) {
            Check.raisesArgument("fault(0, " + part + ")", () -> x.fault(0, part));
            Check.raisesArgument("fault(9, " + part + ")", () -> x.fault(9, part));
        }
    }
}
