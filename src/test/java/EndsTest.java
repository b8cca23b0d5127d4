import java.lang.reflect.InvocationTargetException;
import java.lang.reflect.Method;
import java.lang.reflect.Modifier;
import java.util.Arrays;

/**
 * Every call of the face, in several states, with each number and each two numbers at and beyond their bounds and
 * at the ends of int and long: it answers as the model does, throws nothing, and so do the calls behind it.
 */
public final class EndsTest {
    private static final int LOW = Integer.MIN_VALUE, HIGH = Integer.MAX_VALUE;
    private static final int[] ENDS = {
        LOW, LOW + 1, LOW + 64, -1000001, -65, -25, -20, -14, -7, -5, -4, -3, -2, -1, 0, 1, 2, 3, 4, 5, 6, 7, 8, 9, 10, 11,
        15, 16, 17, 23, 24, 25, 31, 32, 33, 63, 64, 65, 126, 127, 255, 256, 9998, 9999, 10000, 65535, 65536, 999999, 1000000,
        1000001, 1 << 30, HIGH - 24, HIGH - 1, HIGH};
    private static final long[] LONG_ENDS = {
        Long.MIN_VALUE, Long.MIN_VALUE + 1, -(1L << 32), -1, 0, 1, 5, 6, 127, 128, 255, 256, 32768, 65536, 1L << 31, 1L << 32,
        (1L << 32) + 1, Long.MAX_VALUE - 1, Long.MAX_VALUE};
    private static final int MOST_SHOWN = 20;
    /** Each makes up to three calls, and an object is used for 512 at most, those that build the state among them. */
    private static final int MOST_TRIES = 130;

    private static final Due DUE = new Due();

    private final Method call;
    private final Method model;
    private final String[] build;
    private FordWord ford;
    private Model twin;
    private int tries;

    private EndsTest(Method call, Method model, String[] build) {
        this.call = call;
        this.model = model;
        this.build = build;
    }

    public static void main(String[] args) throws ReflectiveOperationException {
        // a text to be typed, then calls with their numbers
        String[][] states = {
            {""},
            {"", "word 63", "sheet 0 3 4"},
            {"", "speaker 4 1 0", "sheet 1 0 2", "image"},
            {"9;p0989898,c0999999,t1301291,m1999999,h1203040;ad,bf,c", "teach 2 0", "said 0 0 1", "sheet 0 2 16", "sheet 1 2 0",
                "sheet 3 2 24", "item 0 2 1 1", "image", "rest"},
            {"5;p0989898,c1999999,t1301291,m1999999,h0203040,p1000000;abcdef,a,b,c,d,e", "guard 0 10", "guard 1 1", "teach 2 0",
                "said 5 1 0", "said 0 1 1", "ask 3 1", "sheet 0 0 24", "sheet 1 0 7", "sheet 2 3 2", "type 57"},
        };
        for (String[] state : states) {
            for (Method call : FordWord.class.getDeclaredMethods()) {
                if (Modifier.isPublic(call.getModifiers()) && DUE.wrong() < MOST_SHOWN) {
                    Method model = Model.class.getDeclaredMethod(call.getName(), call.getParameterTypes());
                    new EndsTest(call, model, state).go();
                }
            }
        }
        DUE.end();
    }

    private void go() throws ReflectiveOperationException {
        int many = call.getParameterCount();
        Object[] plain = plain();
        if (many < 2) {
            anew();
            for (Object v : many == 0 ? new Object[] {0} : ends(0)) {
                both(many == 0 ? new Object[0] : new Object[] {v});
            }
            return;
        }
        for (int p = 0; p < many; p++) {
            for (int q = p + 1; q < many; q++) {
                anew();
                for (Object v : ends(p)) {
                    for (Object w : ends(q)) {
                        Object[] a = plain.clone();
                        a[p] = v;
                        a[q] = w;
                        both(a);
                    }
                }
            }
        }
    }

    /** Numbers that most states take: 1 where 0 would be none, the LANE of SHEET 0. */
    private Object[] plain() {
        int lane = laneOfFirstSheet();
        return switch (call.getName()) {
            case "who" -> new Object[] {0, lane, 0, 1, 0};
            case "film" -> new Object[] {1, 0, 1, 0, lane, 0};
            case "item" -> new Object[] {0, lane, 0, 1L};
            case "guard" -> new Object[] {1, 5};
            case "said", "ask" -> Arrays.copyOf(new Object[] {1, 0, 1}, call.getParameterCount());
            default -> {
                Object[] zeros = new Object[call.getParameterCount()];
                Arrays.fill(zeros, 0);
                yield zeros;
            }
        };
    }

    private int laneOfFirstSheet() {
        for (String line : build) {
            if (line.startsWith("sheet 0 ")) {
                return Integer.parseInt(line.split(" ")[2]);
            }
        }
        return 3;
    }

    private Object[] ends(int p) {
        if (call.getParameterTypes()[p] == long.class) {
            return Arrays.stream(LONG_ENDS).boxed().toArray();
        }
        return Arrays.stream(ENDS).boxed().toArray();
    }

    private void anew() throws ReflectiveOperationException {
        ford = new FordWord();
        twin = new Model();
        tries = 0;
        for (int at = 0; at < build[0].length(); at++) {
            ford.type(build[0].charAt(at));
            twin.type(build[0].charAt(at));
        }
        ford.tongues();
        twin.tongues();
        for (int line = 1; line < build.length; line++) {
            String[] words = build[line].split(" ");
            for (Method m : FordWord.class.getDeclaredMethods()) {
                if (m.getName().equals(words[0])) {
                    Object[] a = new Object[words.length - 1];
                    for (int k = 0; k < a.length; k++) {
                        boolean isLong = m.getParameterTypes()[k] == long.class;
                        a[k] = isLong ? (Object) Long.valueOf(words[k + 1]) : (Object) Integer.valueOf(words[k + 1]);
                    }
                    m.invoke(ford, a);
                    Model.class.getDeclaredMethod(m.getName(), m.getParameterTypes()).invoke(twin, a);
                }
            }
        }
    }

    private void both(Object[] a) throws ReflectiveOperationException {
        if (DUE.wrong() >= MOST_SHOWN) {
            return;
        }
        if (tries >= MOST_TRIES) {
            anew();
        }
        tries++;
        String name = build[0] + " " + call.getName() + Arrays.toString(a);
        int want = (Integer) model.invoke(twin, a);
        try {
            DUE.is(name, (Integer) call.invoke(ford, a), want);
        } catch (InvocationTargetException thrown) {
            DUE.isTrue(name + " threw " + thrown.getCause(), false);
        }
        int what = tries % 11;
        DUE.is(name + ", then count " + what, ford.count(what), twin.count(what));
        // what was done is undone, so that the next call finds somebody who waits
        if (want >= 0 && tries % 3 == 0) {
            DUE.is(name + ", then undo", ford.undo(), twin.undo());
        }
    }
}
