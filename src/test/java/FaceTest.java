import java.io.IOException;
import java.lang.reflect.Constructor;
import java.lang.reflect.Field;
import java.lang.reflect.Method;
import java.lang.reflect.Modifier;
import java.util.ArrayList;
import java.util.Collections;
import java.util.List;

/** The face of the document, no more and no less, and the room that many calls take. */
public final class FaceTest {
    private static final String[] FACE = {
        "append(int, int, int, int, int) int",
        "parse(int) int IllegalArgumentException",
        "errorPosition() int",
        "size(int) int IllegalArgumentException",
        "fault(int, int) int IndexOutOfBoundsException IllegalArgumentException",
        "result(int) int IllegalArgumentException",
        "delivered(int) int",
        "sent(int, int) int IllegalArgumentException",
        "breaks(int) boolean IllegalArgumentException",
        "reaches(int, int) boolean",
        "matters(int, int) boolean IndexOutOfBoundsException IllegalArgumentException",
        "smallest(int) int IllegalArgumentException",
        "core(int) int IllegalArgumentException",
        "leastAmount(int, int) int IndexOutOfBoundsException IllegalArgumentException",
        "attack(int, int) int IllegalArgumentException",
        "weakPoints(int) int IllegalArgumentException",
        "timerFor(int) int IllegalArgumentException",
        "isRecorded(int, int) boolean",
        "addFault(int, int, int) int IllegalArgumentException IllegalStateException",
        "removeFault(int) int IndexOutOfBoundsException",
        "clearFaults() int",
        "set(int, int) int IllegalArgumentException",
        "shrink(int) int IllegalArgumentException IllegalStateException",
        "record() int",
        "undo() int",
        "saveSnapshot(int) boolean IndexOutOfBoundsException",
        "restoreSnapshot(int) int IndexOutOfBoundsException IllegalStateException",
    };

    public static void main(String[] args) throws IOException {
        methods();
        membersBeside();
        room();
        Check.finish("FaceTest");
    }

    private static void methods() {
        List<String> due = new ArrayList<>(List.of(FACE));
        List<String> got = new ArrayList<>();
        List<String> hidden = new ArrayList<>();
        for (Method m : FaultBench.class.getDeclaredMethods()) {
            if (Modifier.isPublic(m.getModifiers())) {
                got.add(line(m));
            } else if (!m.isSynthetic()) {
                hidden.add(m.getName());
                Check.due(m.getName() + " is private", () -> Modifier.isPrivate(m.getModifiers()), true);
            }
        }
        Collections.sort(due);
        Collections.sort(got);
        Check.due("the public methods", () -> got, due);
        for (String name : hidden) {
            Check.due(name + " is no public name", () -> due.stream().anyMatch(d -> d.startsWith(name + "(")), false);
        }
    }

    private static String line(Method m) {
        StringBuilder line = new StringBuilder(m.getName()).append('(');
        for (int k = 0; k < m.getParameterCount(); k++) {
            line.append(k > 0 ? ", " : "").append(m.getParameterTypes()[k].getSimpleName());
        }
        line.append(") ").append(m.getReturnType().getSimpleName());
        for (Class<?> e : m.getExceptionTypes()) {
            line.append(' ').append(e.getSimpleName());
        }
        return line.toString();
    }

    private static void membersBeside() {
        Check.due("final", () -> Modifier.isFinal(FaultBench.class.getModifiers()), true);
        Check.due("constructors", () -> FaultBench.class.getDeclaredConstructors().length, 1);
        Constructor<?> made = FaultBench.class.getDeclaredConstructors()[0];
        Check.due("constructor", () -> Modifier.isPublic(made.getModifiers()) && made.getParameterCount() == 0, true);
        for (Field f : FaultBench.class.getDeclaredFields()) {
            boolean isNone = f.getName().equals("NONE");
            Check.due(f.getName(), () -> Modifier.isPublic(f.getModifiers()), isNone);
            Check.due(f.getName(), () -> Modifier.isPrivate(f.getModifiers()), !isNone);
            if (Modifier.isStatic(f.getModifiers())) {
                Check.due(f.getName() + " is final", () -> Modifier.isFinal(f.getModifiers()), true);
            }
        }
        for (Class<?> c : FaultBench.class.getDeclaredClasses()) {
            Check.due(c.getName(), () -> Modifier.isPrivate(c.getModifiers()) && Modifier.isStatic(c.getModifiers()), true);
            int fields = 0;
            for (Field f : c.getDeclaredFields()) {
                fields += Modifier.isStatic(f.getModifiers()) ? 0 : 1;
            }
            int count = fields;
            Check.due(c.getName() + " has few fields", () -> count <= 20, true);
        }
    }

    /** 512 of the dearest calls: beside the object itself they may make next to nothing. */
    private static void room() {
        com.sun.management.ThreadMXBean counter =
                (com.sun.management.ThreadMXBean) java.lang.management.ManagementFactory.getThreadMXBean();
        long thread = Thread.currentThread().getId();
        calls();
        long before = counter.getThreadAllocatedBytes(thread);
        calls();
        long bytes = counter.getThreadAllocatedBytes(thread) - before;
        Check.due("bytes of a run: " + bytes, () -> bytes < 200000, true);
    }

    private static void calls() {
        FaultBench x = new FaultBench();
        x.append(0x62656e63, 0x6820616c, 0x7465726e, 0x61746520, 0x38203230);
        x.append(0x303b6c61, 0x74656e63, 0x7920353b, 0x74696d65, 0x7220313b);
        x.parse(40);
        for (int k = 0; k < 10; k++) {
            x.addFault(k % 3, 10 * k, k % 3 == 2 ? 20 : 0);
        }
        for (int k = 0; k < 100; k++) {
            int promise = k % 4;
            x.weakPoints(promise);
            x.leastAmount(2, promise);
            x.timerFor(promise);
            if (k < 8) {
                x.core(promise);
                x.attack(promise, 0);
            }
            x.record();
            x.undo();
        }
        x.saveSnapshot(0);
        x.shrink(0);
        x.restoreSnapshot(0);
    }
}
