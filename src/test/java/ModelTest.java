import java.lang.reflect.InvocationTargetException;
import java.lang.reflect.Method;
import java.lang.reflect.Modifier;
import java.util.ArrayList;
import java.util.Comparator;
import java.util.List;
import java.util.Random;

/** Runs of calls, chosen with fixed seeds, on a FaultBench and on the PlainModel: their answers must be the same. */
public final class ModelTest {
    private static final int RUNS = 400;
    private static final int CALLS = 250;
    private static final int[] EXTREMES = {Integer.MIN_VALUE, Integer.MIN_VALUE + 1, -2, -1, 0, 1, 2, 3, 4, 5, 7, 8, 9,
        10, 11, 15, 16, 19, 20, 21, 31, 32, 33, 119, 120, 199, 200, 201, 500, 501, Integer.MAX_VALUE};

    private final Random random;
    private final FaultBench bench = new FaultBench();
    private final PlainModel model = new PlainModel();
    private final List<String> calls = new ArrayList<>();
    private int bufferLength;

    private ModelTest(long seed) {
        random = new Random(seed);
    }

    public static void main(String[] args) {
        int runs = args.length > 0 ? Integer.parseInt(args[0]) : RUNS;
        int first = args.length > 1 ? Integer.parseInt(args[1]) : 0;
        for (int run = first; run < first + runs; run++) {
            ModelTest test = new ModelTest(run);
            if (!test.isSame()) {
                System.out.println("run " + run + " differs:");
                test.calls.forEach(System.out::println);
                System.exit(1);
            }
        }
        System.out.println("ModelTest: " + runs + " runs, all answers are the same");
    }

    private boolean isSame() {
        List<Method> methods = face();
        for (int k = 0; k < CALLS; k++) {
            if (random.nextInt(12) == 0 && !sendText()) {
                return false;
            }
            Method method = choose(methods);
            int[] args = new int[method.getParameterCount()];
            for (int a = 0; a < args.length; a++) {
                args[a] = argument(method.getName(), a, args);
            }
            if (!isSame(method.getName(), args)) {
                return false;
            }
        }
        return true;
    }

    private static List<Method> face() {
        List<Method> methods = new ArrayList<>();
        for (Method m : FaultBench.class.getDeclaredMethods()) {
            if (Modifier.isPublic(m.getModifiers())) {
                methods.add(m);
            }
        }
        methods.sort(Comparator.comparing(Method::getName));
        return methods;
    }

    private Method choose(List<Method> methods) {
        for (;;) {
            Method m = methods.get(random.nextInt(methods.size()));
            boolean isDear = List.of("attack", "weakPoints", "core", "smallest", "shrink").contains(m.getName());
            if (!isDear || random.nextInt(6) == 0) {
                return m;
            }
        }
    }

    private int upTo(int most) {
        return random.nextInt(most + 1);
    }

    private int argument(String name, int place, int[] before) {
        if (random.nextInt(25) == 0) {
            return EXTREMES[random.nextInt(EXTREMES.length)];
        }
        switch (name) {
            case "append":
                return random.nextInt();
            case "parse":
                return random.nextInt(4) == 0 ? upTo(bufferLength + 1) - random.nextInt(2) : bufferLength;
            case "size":
                return upTo(10);
            case "fault":
                return place == 0 ? random.nextInt(Math.max(1, faultCount())) : upTo(2);
            case "result":
                return upTo(7);
            case "delivered":
                return upTo(9);
            case "sent":
                return place == 0 ? upTo(random.nextInt(3) == 0 ? 120 : 20) : upTo(4);
            case "reaches":
            case "isRecorded":
                return upTo(8);
            case "matters":
            case "leastAmount":
                return place == 0 ? random.nextInt(Math.max(1, faultCount())) : upTo(3);
            case "attack":
                return place == 0 ? upTo(3) : upTo(2);
            case "addFault":
                return place == 0 ? upTo(2) : place == 1 ? number() : before[0] == 2 ? 1 + upTo(19) : 0;
            case "removeFault":
                return random.nextInt(Math.max(1, faultCount()));
            case "set":
                return place == 0 ? upTo(7) : setting(before[0]);
            case "saveSnapshot":
            case "restoreSnapshot":
                return upTo(1);
            default:
                return upTo(3);
        }
    }

    private int faultCount() {
        return bench.size(8);
    }

    private int number() {
        return upTo(random.nextInt(4) == 0 ? 119 : 14);
    }

    private int setting(int what) {
        switch (what) {
            case 0:
                return upTo(2);
            case 1:
                return 1 + upTo(7);
            case 2:
                return ticks();
            case 3:
                return 1 + upTo(4);
            case 4:
                return 1 + upTo(19);
            case 5:
                return 1 + upTo(3);
            case 6:
                return 2 + upTo(6);
            default:
                return 1 + upTo(random.nextBoolean() ? 199 : 25);
        }
    }

    private int ticks() {
        return 10 + upTo(random.nextInt(8) == 0 ? 190 : 30);
    }

    private String text() {
        StringBuilder text = new StringBuilder("bench ");
        text.append(List.of("plain", "alternate", "window").get(upTo(2)));
        text.append(' ').append(setting(1)).append(' ').append(ticks()).append(';');
        String[] words = {"latency", "timer", "size", "budget"};
        int[] whats = {3, 4, 5, 7};
        for (int k = 0; k < 4; k++) {
            if (random.nextBoolean()) {
                text.append(words[k]).append(' ').append(setting(whats[k]));
                text.append(k == 2 ? " " + setting(6) : "").append(gap()).append(';');
            }
        }
        int faults = random.nextInt(5) == 0 ? upTo(11) : upTo(4);
        for (int k = 0; k < faults; k++) {
            int kind = upTo(2);
            text.append(gap()).append(List.of("drop", "twice", "late").get(kind)).append(' ').append(number());
            text.append(kind == 2 ? " " + (1 + upTo(19)) : "").append(';');
        }
        if (random.nextInt(3) == 0) {
            spoil(text);
        }
        return text.toString();
    }

    private String gap() {
        return List.of("", "", " ", "\n").get(upTo(3));
    }

    private void spoil(StringBuilder text) {
        String[] pieces = {"", " ", "\n", ";", "0", "9", "12", "1000", "200", "latency", "timer 5;", "size 2 3;", "drop",
            "late 3 4;", "twice 1;", "drop 1;", "?", "X", "\u00ff", "\u0000", "abcdefghij", "budget", "120", "late 5 21;"};
        int times = 1 + upTo(1);
        for (int k = 0; k < times; k++) {
            int from = random.nextInt(text.length() + 1);
            int to = Math.min(text.length(), from + upTo(3));
            text.replace(from, to, pieces[random.nextInt(pieces.length)]);
        }
    }

    private boolean sendText() {
        String text = text();
        for (int k = 0; k < text.length(); k += 20) {
            int[] words = new int[5];
            for (int b = 0; b < 20; b++) {
                words[b / 4] = words[b / 4] << 8 | Check.byteOf(text, k + b);
            }
            if (!isSame("append", words)) {
                return false;
            }
        }
        return isSame("parse", new int[] {Math.min(text.length(), bufferLength)}) && isSame("errorPosition", new int[0]);
    }

    private boolean isSame(String name, int[] args) {
        Object got = answer(bench, name, args);
        Object want = answer(model, name, args);
        StringBuilder call = new StringBuilder(name).append('(');
        for (int k = 0; k < args.length; k++) {
            call.append(k > 0 ? ", " : "").append(args[k]);
        }
        calls.add(call.append(") = ").append(got).append(got.equals(want) ? "" : ", due is " + want).toString());
        if (name.equals("append") && (Integer) got != -1) {
            bufferLength = (Integer) got;
        }
        if (name.equals("parse") && got instanceof Integer) {
            bufferLength = 0;
        }
        return got.equals(want);
    }

    private static Object answer(Object object, String name, int[] args) {
        Class<?>[] types = new Class<?>[args.length];
        Object[] values = new Object[args.length];
        for (int k = 0; k < args.length; k++) {
            types[k] = int.class;
            values[k] = args[k];
        }
        try {
            return object.getClass().getMethod(name, types).invoke(object, values);
        } catch (InvocationTargetException e) {
            return e.getCause().getClass().getSimpleName();
        } catch (ReflectiveOperationException e) {
            return "no such method: " + e;
        }
    }
}
