import java.lang.reflect.Constructor;
import java.lang.reflect.Field;
import java.lang.reflect.Method;
import java.lang.reflect.Modifier;
import java.util.ArrayList;
import java.util.HashSet;
import java.util.List;
import java.util.Set;
import java.util.TreeSet;

/** The face is the document's and nothing else (LANGUAGE.md, rule 1), and static state is constant (rule 5). */
public final class FaceTest {
    private static final String[] METHODS = {
        "speaker 3", "can 3", "word 1", "guard 2", "of 2", "skill 3", "type 1", "tongues 0", "count 1", "worn 2",
        "ask 2", "said 3", "teach 2", "rest 0", "undo 0", "seed 1", "pass 3", "wrongs 1", "parting 1", "learn 4",
        "cross 3", "line 2", "proof 1", "heardWrong 1", "image 0", "restore 0", "who 5", "film 6", "sheet 3",
        "drop 1", "item 4", "copy 5"};
    private static final String[] CONSTANTS = {
        "BAD -1", "NOT -2", "FULL -3", "NONE -4", "NULL -11", "CAST -12", "INDEX -13", "SIZE -14"};

    private static final Due DUE = new Due();

    private FaceTest() {
    }

    public static void main(String[] args) throws IllegalAccessException {
        DUE.isTrue("public and final", FordWord.class.getModifiers() == (Modifier.PUBLIC | Modifier.FINAL));
        DUE.isTrue("no class above it", FordWord.class.getSuperclass() == Object.class);
        checkMethods();
        checkConstants();
        checkConstructors();
        checkClassesInside();
        DUE.end();
    }

    private static void checkMethods() {
        Set<String> open = new TreeSet<>();
        Set<String> openNames = new HashSet<>();
        List<String> hidden = new ArrayList<>();
        for (Method method : FordWord.class.getDeclaredMethods()) {
            if (Modifier.isPrivate(method.getModifiers())) {
                hidden.add(method.getName());
                continue;
            }
            open.add(method.getName() + " " + method.getParameterCount());
            openNames.add(method.getName());
            DUE.isTrue(method + " is public and of the object", method.getModifiers() == Modifier.PUBLIC);
            DUE.isTrue(method + " answers an int", method.getReturnType() == int.class);
            for (int p = 0; p < method.getParameterCount(); p++) {
                boolean isLong = method.getName().equals("item") && p == 3;
                DUE.isTrue(method + " takes " + p, method.getParameterTypes()[p] == (isLong ? long.class : int.class));
            }
        }
        DUE.isTrue("the methods: " + open, open.equals(new TreeSet<>(List.of(METHODS))));
        for (String name : hidden) {
            DUE.isTrue("private " + name + " has a name of its own", !openNames.contains(name));
        }
    }

    private static void checkConstants() throws IllegalAccessException {
        Set<String> open = new TreeSet<>();
        for (Field field : FordWord.class.getDeclaredFields()) {
            if (Modifier.isStatic(field.getModifiers())) {
                DUE.isTrue(field + " is final", Modifier.isFinal(field.getModifiers()));
            }
            if (!Modifier.isPrivate(field.getModifiers())) {
                DUE.isTrue(field + " is an int constant", field.getType() == int.class
                        && field.getModifiers() == (Modifier.PUBLIC | Modifier.STATIC | Modifier.FINAL));
                open.add(field.getName() + " " + field.getInt(null));
            }
        }
        DUE.isTrue("the constants: " + open, open.equals(new TreeSet<>(List.of(CONSTANTS))));
    }

    private static void checkConstructors() {
        Constructor<?>[] made = FordWord.class.getDeclaredConstructors();
        DUE.is("constructors", made.length, 1);
        DUE.isTrue("public, of nothing", made[0].getModifiers() == Modifier.PUBLIC && made[0].getParameterCount() == 0);
    }

    private static void checkClassesInside() {
        Class<?>[] inside = FordWord.class.getDeclaredClasses();
        DUE.isTrue("some twelve classes at most", inside.length < 12);
        for (Class<?> one : inside) {
            int shown = one.getModifiers() & (Modifier.PUBLIC | Modifier.PROTECTED);
            DUE.isTrue(one + " is hidden and static", shown == 0 && Modifier.isStatic(one.getModifiers()));
            int fields = 0;
            for (Field field : one.getDeclaredFields()) {
                if (Modifier.isStatic(field.getModifiers())) {
                    DUE.isTrue(field + " is final", Modifier.isFinal(field.getModifiers()));
                } else {
                    fields++;
                }
            }
            DUE.isTrue(one + " has some twenty fields at most", fields <= 20);
            for (Method method : one.getDeclaredMethods()) {
                DUE.isTrue(method + " takes seven at most", method.getParameterCount() <= 7);
            }
        }
    }
}
