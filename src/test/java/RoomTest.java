import com.sun.management.ThreadMXBean;
import java.lang.management.ManagementFactory;
import java.lang.reflect.Array;
import java.lang.reflect.Field;
import java.lang.reflect.Modifier;
import java.util.ArrayDeque;
import java.util.Collections;
import java.util.Deque;
import java.util.IdentityHashMap;
import java.util.Set;

/**
 * All calls of one run live in one room of some 600,000 objects and 7,300,000 fields and elements. A run that makes
 * a new FordWord at each of its 512 calls fits in, since calls themselves make nothing.
 */
public final class RoomTest {
    private static final int MOST_FORDS = 512;
    private static final int ROOM_OBJECTS = 600000;
    private static final int ROOM_ELEMENTS = 7300000;
    private static final int ROUNDS = 8;

    private static final Due DUE = new Due();

    private final Set<Object> objects = Collections.newSetFromMap(new IdentityHashMap<>());
    private long elements;

    private RoomTest(Object whole) throws IllegalAccessException {
        Deque<Object> open = new ArrayDeque<>();
        open.add(whole);
        while (!open.isEmpty()) {
            Object one = open.remove();
            if (objects.add(one)) {
                look(one, open);
            }
        }
    }

    public static void main(String[] args) throws IllegalAccessException {
        FordWord ford = new FordWord();
        RoomTest fresh = new RoomTest(ford);
        DUE.isTrue("512 fords of " + fresh.objects.size() + " objects", fresh.objects.size() * MOST_FORDS < ROOM_OBJECTS);
        DUE.isTrue("512 fords of " + fresh.elements + " elements", fresh.elements * MOST_FORDS < ROOM_ELEMENTS);
        eachCall(ford);
        RoomTest used = new RoomTest(ford);
        DUE.isTrue("calls add no object and no element", used.objects.equals(fresh.objects) && used.elements == fresh.elements);
        DUE.is("bytes that calls make", leastMade(), 0);
        DUE.end();
    }

    private void look(Object one, Deque<Object> open) throws IllegalAccessException {
        if (one.getClass().isArray()) {
            int length = Array.getLength(one);
            elements += length;
            for (int i = 0; i < length && one instanceof Object[] row; i++) {
                addTo(open, row[i]);
            }
            return;
        }
        for (Field field : one.getClass().getDeclaredFields()) {
            if (!Modifier.isStatic(field.getModifiers())) {
                elements++;
                field.setAccessible(true);
                if (!field.getType().isPrimitive()) {
                    addTo(open, field.get(one));
                }
            }
        }
    }

    private static void addTo(Deque<Object> open, Object one) {
        if (one != null) {
            open.add(one);
        }
    }

    /** The least of some rounds: the machine itself may make objects while it warms up. */
    private static long leastMade() {
        ThreadMXBean machine = (ThreadMXBean) ManagementFactory.getThreadMXBean();
        long least = Long.MAX_VALUE;
        for (int round = 0; round < ROUNDS; round++) {
            FordWord ford = new FordWord();
            long before = machine.getCurrentThreadAllocatedBytes();
            eachCall(ford);
            least = Math.min(least, machine.getCurrentThreadAllocatedBytes() - before);
        }
        return least;
    }

    private static void eachCall(FordWord f) {
        Fords.type(f, "9;x");
        f.tongues();
        Fords.type(f, "9;p0989898,c0999999,t1301291,m1999999,h1203040;ad,bf,c");
        f.tongues();
        f.sheet(0, 0, 6);
        f.sheet(3, 2, 8);
        f.item(3, 2, 0, 2);
        f.speaker(0, 0, 5);
        f.can(5, 0, 1);
        f.word(63);
        for (int many = 0; many < 12; many++) {
            f.teach(many % 6, many / 6);
        }
        for (int word = 0; word < 4; word++) {
            foretell(f, word);
        }
        f.image();
        for (int speaker = 0; speaker < 6; speaker++) {
            f.ask(speaker, 3);
            f.said(speaker, 3, 1);
        }
        f.heardWrong(0);
        f.heardWrong(1);
        f.rest();
        f.undo();
        f.restore();
        f.film(1, 0, 4, 0, 0, 0);
        f.copy(0, 0, 0, 1, 3);
        f.who(3, 2, 0, 4, FordWord.NONE);
        f.drop(3);
    }

    private static void foretell(FordWord f, int word) {
        f.guard(0, 9 - word);
        f.seed(word);
        f.wrongs(word);
        f.worn(word, 1);
        f.line(word, -1);
        f.line(word, 2);
        f.proof(word * 300000);
        f.parting(word % 2);
        for (int speaker = 0; speaker < 6; speaker++) {
            f.of(speaker, 3);
            f.skill(speaker, word, 0);
            f.pass(speaker, word, 9999);
            f.learn(speaker, word, 6, 0);
            f.cross(speaker, word, 1);
            f.who(3, 2, 0, 4, speaker);
        }
        f.count(6);
    }
}
