import java.util.ArrayDeque;
import java.util.ArrayList;
import java.util.Arrays;
import java.util.Deque;
import java.util.HashSet;
import java.util.List;
import java.util.Set;
import java.util.TreeSet;
import java.util.regex.Matcher;
import java.util.regex.Pattern;

/** The document written down once more, with the library and without any short cut, to compare with. */
public final class PlainModel {
    private static final int[] LOW = {0, 1, 10, 1, 1, 1, 2, 1};
    private static final int[] HIGH = {2, 8, 200, 5, 20, 4, 8, 200};

    /** Everything that changes can change. */
    private static final class Bench {
        int[] settings = {0, 1, 10, 1, 8, 2, 4, 50};
        /** Number, kind, amount: in this order the lists sort as the document says. */
        List<int[]> faults = new ArrayList<>();
        Set<List<Integer>> recorded = new HashSet<>();

        Bench copy() {
            Bench other = new Bench();
            other.settings = settings.clone();
            for (int[] f : faults) {
                other.faults.add(f.clone());
            }
            other.recorded.addAll(recorded);
            return other;
        }

        void sort() {
            faults.sort((p, q) -> Arrays.compare(p, q));
        }

        boolean has(int kind, int number) {
            return faults.stream().anyMatch(f -> f[0] == number && f[1] == kind);
        }
    }

    private static final class Packet {
        int tick;
        boolean isAnswer;
        int content;
        int first = -1;
        int second = -1;
    }

    /** A run of a bench. */
    private static final class Course {
        final Bench bench;
        final List<Packet> packets = new ArrayList<>();
        final List<int[]> deliveries = new ArrayList<>();
        final Set<List<Integer>> states = new HashSet<>();
        final int protocol;
        final int items;
        final int timer;
        int ticks;
        int sentItems;
        int present;
        int lastSent = -1;
        int expectedSign;
        int base;
        int next;
        int timerStarted;
        int r;

        Course(Bench bench) {
            this.bench = bench;
            protocol = bench.settings[0];
            items = bench.settings[1];
            timer = bench.settings[4];
            for (int tick = 0; tick < bench.settings[2]; tick++) {
                List<Packet> before = new ArrayList<>(packets);
                for (Packet p : before) {
                    if (p.first == tick || p.second == tick) {
                        if (p.isAnswer) {
                            answer(p.content, tick);
                        } else {
                            data(p.content, tick);
                        }
                    }
                }
                turn(tick);
                states.add(List.of(senderNumber(), Math.min(15, deliveries.size())));
                ticks = tick + 1;
                int now = tick;
                if (senderNumber() == items && packets.stream().noneMatch(p -> p.first > now || p.second > now)) {
                    break;
                }
            }
        }

        int senderNumber() {
            return protocol == 0 ? sentItems : protocol == 1 ? present : base;
        }

        void send(int tick, boolean isAnswer, int content) {
            int number = packets.size();
            if (number == 120) {
                return;
            }
            Packet p = new Packet();
            p.tick = tick;
            p.isAnswer = isAnswer;
            p.content = content;
            if (!bench.has(0, number)) {
                p.first = tick + bench.settings[3];
                for (int[] f : bench.faults) {
                    if (f[0] == number && f[1] == 2) {
                        p.first += f[2];
                    }
                }
                if (bench.has(1, number)) {
                    p.second = p.first + 1;
                }
            }
            packets.add(p);
        }

        void data(int item, int tick) {
            if (protocol == 0) {
                deliveries.add(new int[] {item, tick});
            } else if (protocol == 1) {
                int sign = item % 2;
                if (sign == expectedSign) {
                    deliveries.add(new int[] {item, tick});
                    expectedSign = 1 - expectedSign;
                }
                send(tick, true, sign);
            } else {
                int modulus = bench.settings[6];
                if (item % modulus == r % modulus) {
                    deliveries.add(new int[] {item, tick});
                    r++;
                }
                send(tick, true, r % modulus);
            }
        }

        void answer(int sign, int tick) {
            if (protocol == 1 && present < items && sign == present % 2) {
                present++;
                lastSent = -1;
            }
            if (protocol == 2) {
                for (int c = 1; c <= next - base; c++) {
                    if ((base + c) % bench.settings[6] == sign) {
                        base += c;
                        timerStarted = tick;
                        break;
                    }
                }
            }
        }

        void turn(int tick) {
            if (protocol == 0) {
                if (sentItems < items) {
                    send(tick, false, sentItems);
                    sentItems++;
                }
            } else if (protocol == 1) {
                if (present < items && (lastSent == -1 || tick - lastSent >= timer)) {
                    send(tick, false, present);
                    lastSent = tick;
                }
            } else {
                if (base < next && tick - timerStarted >= timer) {
                    timerStarted = tick;
                    next = base;
                }
                if (next < base + bench.settings[5] && next < items) {
                    boolean wasEqual = base == next;
                    send(tick, false, next);
                    next++;
                    if (wasEqual) {
                        timerStarted = tick;
                    }
                }
            }
        }

        int complete() {
            Set<Integer> seen = new HashSet<>();
            for (int[] d : deliveries) {
                seen.add(d[0]);
                if (seen.size() == items) {
                    return d[1];
                }
            }
            return -1;
        }

        boolean breaks(int promise) {
            if (promise == 0) {
                return complete() == -1;
            }
            if (promise == 3) {
                return complete() == -1 || complete() > bench.settings[7];
            }
            for (int i = 0; i < deliveries.size(); i++) {
                for (int j = 0; j < i; j++) {
                    if (promise == 1 && deliveries.get(i)[0] == deliveries.get(j)[0]) {
                        return true;
                    }
                    if (promise == 2 && deliveries.get(i)[0] < deliveries.get(j)[0]) {
                        return true;
                    }
                }
            }
            return false;
        }
    }

    private Bench bench = new Bench();
    private final List<Integer> buffer = new ArrayList<>();
    private int errorPosition = -1;
    private final Deque<Bench> undos = new ArrayDeque<>();
    private final Bench[] slots = new Bench[2];

    // ---- text

    public int append(int a, int b, int c, int d, int e) {
        if (buffer.size() > 480) {
            return -1;
        }
        for (int word : new int[] {a, b, c, d, e}) {
            for (byte one : java.nio.ByteBuffer.allocate(4).putInt(word).array()) {
                buffer.add(one & 255);
            }
        }
        return buffer.size();
    }

    private static final class Fault extends Exception {
        private static final long serialVersionUID = 1L;
        final int code;
        final int position;

        Fault(int code, int position) {
            this.code = code;
            this.position = position;
        }
    }

    private static final Pattern TOKEN = Pattern.compile("[ \n]+|([a-z]+)|([0-9]+)|(;)|(?s:.)");

    private List<Object[]> tokens(String text) {
        List<Object[]> tokens = new ArrayList<>();
        Matcher m = TOKEN.matcher(text);
        while (m.find()) {
            String all = m.group();
            if (m.group(1) != null) {
                tokens.add(new Object[] {all.length() <= 9 ? "word" : "bad", all, m.start()});
            } else if (m.group(2) != null) {
                tokens.add(new Object[] {all.length() <= 3 ? "number" : "bad", all, m.start()});
            } else if (m.group(3) != null) {
                tokens.add(new Object[] {";", all, m.start()});
            } else if (all.charAt(0) != ' ' && all.charAt(0) != '\n') {
                tokens.add(new Object[] {"bad", all, m.start()});
            }
        }
        tokens.add(new Object[] {"end", "", text.length()});
        return tokens;
    }

    private List<Object[]> rest;

    private Object[] take(String kind, String... words) throws Fault {
        Object[] token = rest.remove(0);
        if (!token[0].equals(kind) || words.length > 0 && !List.of(words).contains(token[1])) {
            throw new Fault(1, (Integer) token[2]);
        }
        return token;
    }

    private int number(int low, int high) throws Fault {
        Object[] token = take("number");
        int value = Integer.parseInt((String) token[1]);
        if (value < low || value > high) {
            throw new Fault(3, (Integer) token[2]);
        }
        return value;
    }

    private Bench read(String text) throws Fault {
        Bench b = new Bench();
        rest = tokens(text);
        take("word", "bench");
        b.settings[0] = List.of("plain", "alternate", "window").indexOf(take("word", "plain", "alternate", "window")[1]);
        b.settings[1] = number(1, 8);
        b.settings[2] = number(10, 200);
        take(";");
        Set<String> had = new TreeSet<>();
        while (!rest.get(0)[0].equals("end")) {
            Object[] token = take("word", "latency", "timer", "size", "budget", "drop", "twice", "late");
            String word = (String) token[1];
            int kind = List.of("drop", "twice", "late").indexOf(word);
            if (kind < 0) {
                if (!had.add(word)) {
                    throw new Fault(2, (Integer) token[2]);
                }
                int what = word.equals("latency") ? 3 : word.equals("timer") ? 4 : word.equals("size") ? 5 : 7;
                b.settings[what] = number(LOW[what], HIGH[what]);
                if (what == 5) {
                    b.settings[6] = number(2, 8);
                }
            } else {
                if (b.faults.size() == 10) {
                    throw new Fault(4, (Integer) token[2]);
                }
                int position = (Integer) rest.get(0)[2];
                int number = number(0, 119);
                if (b.has(kind, number)) {
                    throw new Fault(2, position);
                }
                b.faults.add(new int[] {number, kind, kind == 2 ? number(1, 20) : 0});
                b.sort();
            }
            take(";");
        }
        return b;
    }

    public int parse(int length) {
        if (length < 0 || length > buffer.size()) {
            throw new IllegalArgumentException();
        }
        StringBuilder text = new StringBuilder();
        for (int k = 0; k < length; k++) {
            text.append((char) (int) buffer.get(k));
        }
        buffer.clear();
        try {
            bench = read(text.toString());
        } catch (Fault f) {
            errorPosition = f.position;
            return f.code;
        }
        errorPosition = -1;
        undos.clear();
        Arrays.fill(slots, null);
        return 0;
    }

    public int errorPosition() {
        return errorPosition;
    }

    public int size(int what) {
        range(what, 0, 10);
        return what < 8 ? bench.settings[what] : what == 8 ? bench.faults.size()
                : what == 9 ? undos.size() : bench.recorded.size();
    }

    public int fault(int fault, int part) {
        there(fault, bench.faults.size());
        range(part, 0, 2);
        return bench.faults.get(fault)[part == 0 ? 1 : part == 1 ? 0 : 2];
    }

    // ---- the run

    private static void range(int value, int low, int high) {
        if (value < low || value > high) {
            throw new IllegalArgumentException();
        }
    }

    private static void there(int value, int count) {
        if (value < 0 || value >= count) {
            throw new IndexOutOfBoundsException();
        }
    }

    public int result(int what) {
        range(what, 0, 7);
        Course c = new Course(bench);
        if (what == 4) {
            int again = 0;
            for (int i = 0; i < c.packets.size(); i++) {
                for (int j = 0; j < i; j++) {
                    if (!c.packets.get(i).isAnswer && !c.packets.get(j).isAnswer
                            && c.packets.get(i).content == c.packets.get(j).content) {
                        again++;
                        break;
                    }
                }
            }
            return again;
        }
        int bits = 0;
        for (int p = 0; p < 4; p++) {
            bits += c.breaks(p) ? 1 << p : 0;
        }
        int answers = (int) c.packets.stream().filter(p -> p.isAnswer).count();
        return new int[] {c.ticks, c.packets.size(), c.deliveries.size(), c.complete(), 0, answers, c.states.size(),
            bits}[what];
    }

    public int delivered(int k) {
        Course c = new Course(bench);
        return k < 0 || k >= c.deliveries.size() ? -1 : c.deliveries.get(k)[0];
    }

    public int sent(int k, int part) {
        range(part, 0, 4);
        Course c = new Course(bench);
        if (k < 0 || k >= c.packets.size()) {
            return -1;
        }
        Packet p = c.packets.get(k);
        return new int[] {p.tick, p.isAnswer ? 1 : 0, p.content, p.first, p.second}[part];
    }

    public boolean breaks(int promise) {
        range(promise, 0, 3);
        return new Course(bench).breaks(promise);
    }

    public boolean reaches(int sender, int received) {
        return new Course(bench).states.contains(List.of(sender, received));
    }

    // ---- what would be

    private static boolean broken(Bench b, int promise) {
        return new Course(b).breaks(promise);
    }

    public boolean matters(int fault, int promise) {
        there(fault, bench.faults.size());
        range(promise, 0, 3);
        Bench without = bench.copy();
        without.faults.remove(fault);
        return broken(bench, promise) && !broken(without, promise);
    }

    private Bench part(int bits) {
        Bench some = bench.copy();
        some.faults.clear();
        for (int k = 0; k < bench.faults.size(); k++) {
            if ((bits >> k & 1) == 1) {
                some.faults.add(bench.faults.get(k).clone());
            }
        }
        return some;
    }

    public int smallest(int promise) {
        int core = core(promise);
        return core == -1 ? -1 : Integer.bitCount(core);
    }

    public int core(int promise) {
        range(promise, 0, 3);
        int best = -1;
        for (int bits = 0; bits < 1 << bench.faults.size(); bits++) {
            if ((best == -1 || isBetter(bits, best)) && broken(part(bits), promise)) {
                best = bits;
            }
        }
        return best;
    }

    private static boolean isBetter(int one, int other) {
        if (Integer.bitCount(one) != Integer.bitCount(other)) {
            return Integer.bitCount(one) < Integer.bitCount(other);
        }
        int differing = one ^ other;
        return (one & Integer.lowestOneBit(differing)) != 0;
    }

    public int leastAmount(int fault, int promise) {
        there(fault, bench.faults.size());
        range(promise, 0, 3);
        if (bench.faults.get(fault)[1] != 2) {
            return -1;
        }
        for (int amount = 1; amount <= bench.faults.get(fault)[2]; amount++) {
            Bench b = bench.copy();
            b.faults.get(fault)[2] = amount;
            if (broken(b, promise)) {
                return amount;
            }
        }
        return -1;
    }

    private Bench only(int kind, int number, int amount) {
        Bench b = part(0);
        b.faults.add(new int[] {number, kind, amount});
        return b;
    }

    public int attack(int promise, int part) {
        range(promise, 0, 3);
        range(part, 0, 2);
        if (broken(part(0), promise)) {
            return -1;
        }
        for (int number = 0; number < 120; number++) {
            for (int kind = 0; kind < 3; kind++) {
                for (int amount = kind == 2 ? 1 : 0; amount <= (kind == 2 ? 20 : 0); amount++) {
                    if (broken(only(kind, number, amount), promise)) {
                        return part == 0 ? kind : part == 1 ? number : amount;
                    }
                }
            }
        }
        return -1;
    }

    public int weakPoints(int promise) {
        range(promise, 0, 3);
        if (broken(part(0), promise)) {
            return 0;
        }
        int count = 0;
        for (int number = 0; number < 120; number++) {
            count += broken(only(0, number, 0), promise) ? 1 : 0;
        }
        return count;
    }

    public int timerFor(int promise) {
        range(promise, 0, 3);
        for (int timer = 1; timer <= 20; timer++) {
            Bench b = bench.copy();
            b.settings[4] = timer;
            if (!broken(b, promise)) {
                return timer;
            }
        }
        return -1;
    }

    public boolean isRecorded(int sender, int received) {
        return bench.recorded.contains(List.of(sender, received));
    }

    // ---- changes

    private void change(Bench after) {
        undos.addLast(bench);
        if (undos.size() > 10) {
            undos.removeFirst();
        }
        bench = after;
    }

    public int addFault(int kind, int number, int amount) {
        range(kind, 0, 2);
        range(number, 0, 119);
        range(amount, kind == 2 ? 1 : 0, kind == 2 ? 20 : 0);
        if (bench.has(kind, number) || bench.faults.size() == 10) {
            throw new IllegalStateException();
        }
        Bench after = bench.copy();
        int[] added = {number, kind, amount};
        after.faults.add(added);
        after.sort();
        change(after);
        return after.faults.indexOf(added);
    }

    public int removeFault(int fault) {
        there(fault, bench.faults.size());
        Bench after = bench.copy();
        after.faults.remove(fault);
        change(after);
        return after.faults.size();
    }

    public int clearFaults() {
        int count = bench.faults.size();
        change(part(0));
        return count;
    }

    public int set(int what, int value) {
        range(what, 0, 7);
        range(value, LOW[what], HIGH[what]);
        int before = bench.settings[what];
        Bench after = bench.copy();
        after.settings[what] = value;
        change(after);
        return before;
    }

    public int shrink(int promise) {
        int core = core(promise);
        if (core == -1) {
            throw new IllegalStateException();
        }
        change(part(core));
        for (int k = 0; k < bench.faults.size(); k++) {
            if (bench.faults.get(k)[1] == 2) {
                bench.faults.get(k)[2] = leastAmount(k, promise);
            }
        }
        return bench.faults.size();
    }

    public int record() {
        Bench after = bench.copy();
        after.recorded.addAll(new Course(bench).states);
        int added = after.recorded.size() - bench.recorded.size();
        change(after);
        return added;
    }

    // ---- undo and snapshots

    public int undo() {
        if (undos.isEmpty()) {
            return -1;
        }
        bench = undos.removeLast();
        return undos.size();
    }

    public boolean saveSnapshot(int slot) {
        there(slot, 2);
        boolean earlier = slots[slot] != null;
        slots[slot] = bench.copy();
        return earlier;
    }

    public int restoreSnapshot(int slot) {
        there(slot, 2);
        if (slots[slot] == null) {
            throw new IllegalStateException();
        }
        bench = slots[slot].copy();
        undos.clear();
        return bench.faults.size();
    }
}
