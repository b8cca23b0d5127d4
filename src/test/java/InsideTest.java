import java.lang.reflect.Field;
import java.util.Arrays;

/**
 * The boundaries that the document names and that no run of calls comes to: HOUR 9999 (a run comes to 42) and a
 * thirteenth entry of THE BOOK (each SPEAKER is asked once). They are set up from within, by the fields' names.
 */
public final class InsideTest {
    private static final int BAD = -1, NOT = -2, FULL = -3, NONE = -4;
    private static final int MILLION = 1000000;
    private static final Sentences S = new Sentences();

    private InsideTest() {
    }

    public static void main(String[] args) {
        S.holds(12, "'FULL: HOUR is 9999'; 9998 is not", InsideTest::ask);
        S.holds(13, "FULL: likewise", InsideTest::said);
        S.holds(14, "FULL: likewise", InsideTest::teach);
        S.holds(15, "HOUR 9999 is 0 again", () -> {
            FordWord f = at(9999);
            S.is("rest", f.rest(), 9999);
            S.is("HOUR", f.count(4), 0);
            S.is("ask", Math.min(0, f.ask(1, 0)), 0);
        });
        S.holds(18, "now, in HOUR 9999", () -> S.is("pass", at(9999).pass(1, 0, NONE), 500000));
        S.holds(22, "the next 24 of HOUR 9999", () -> {
            S.is("cross", at(9999).cross(1, 0, 0), 9999);
            S.is("cross", at(9999).cross(1, 0, 1), 500000);
        });
        S.holds(23, "from HOUR 9999 on", () -> S.is("line", at(9999).line(0, -1), 500000 + MILLION));
        S.holds(25, "'(12 at most; older ones are lost)'", InsideTest::book);
        S.holds(29, "from HOUR 9999 on", () -> {
            FordWord f = at(9999);
            f.sheet(0, 0, 24);
            S.is("film", f.film(1, 0, 24, 0, 0, 0), 24);
        });
        S.end(12, 15);
    }

    private static Object inside(Object whole, String name) {
        try {
            Field field = whole.getClass().getDeclaredField(name);
            field.setAccessible(true);
            return field.get(whole);
        } catch (ReflectiveOperationException e) {
            throw new IllegalStateException(e);
        }
    }

    private static void setHour(FordWord f, int hour) {
        Object moment = inside(inside(f, "ford"), "moment");
        try {
            Field field = moment.getClass().getDeclaredField("hour");
            field.setAccessible(true);
            field.setInt(moment, hour);
        } catch (ReflectiveOperationException e) {
            throw new IllegalStateException(e);
        }
    }

    /** Three SPEAKERS, 0 is OVER, 2 was TAUGHT SOUND 0; THE DRAW is 7. */
    private static FordWord at(int hour) {
        FordWord f = Fords.told("9;p0555555,p0555555,m1000000;a,b");
        f.seed(7);
        f.teach(2, 0);
        f.said(0, 0, 1);
        setHour(f, hour);
        return f;
    }

    private static void unchanged(FordWord f) {
        int[] counts = {3, 2, 9, 4, 9999, 0, 6, 1, 0, 1, 2};
        for (int what = 0; what < counts.length; what++) {
            S.is("count " + what, f.count(what), counts[what]);
        }
        S.is("WORN", f.worn(0, 1), 1);
        S.is("TAUGHT", f.of(2, 3), 1);
        S.is("THE DRAW", f.seed(7), 7);
    }

    private static void ask() {
        FordWord f = at(9998);
        S.is("9998", Math.min(0, f.ask(1, 0)), 0);
        S.is("HOUR", f.count(4), 9999);
        S.is("9999", f.ask(2, 0), FULL);
        FordWord full = at(9999);
        S.is("9999", full.ask(1, 0), FULL);
        S.is("NOT goes ahead", full.ask(0, 0), NOT);
        S.is("BAD goes ahead", full.ask(1, 2), BAD);
        S.is("BAD goes ahead", full.ask(3, 0), BAD);
        unchanged(full);
    }

    private static void said() {
        FordWord f = at(9998);
        S.is("9998", f.said(2, 0, 1), MILLION);
        S.is("HOUR", f.count(4), 9999);
        FordWord full = at(9999);
        S.is("9999", full.said(1, 0, 1), FULL);
        S.is("NOT goes ahead", full.said(0, 0, 1), NOT);
        S.is("BAD goes ahead", full.said(1, 0, 2), BAD);
        unchanged(full);
    }

    private static void teach() {
        FordWord f = at(9998);
        S.is("9998", f.teach(2, 5), 33);
        S.is("HOUR", f.count(4), 9999);
        FordWord full = at(9999);
        S.is("9999", full.teach(2, 5), FULL);
        S.is("NOT goes ahead", full.teach(2, 0), NOT);
        S.is("NOT goes ahead", full.teach(0, 0), NOT);
        S.is("BAD goes ahead", full.teach(2, 6), BAD);
        unchanged(full);
    }

    private static void allWaitAgain(FordWord f) {
        Arrays.fill((int[]) inside(inside(inside(f, "ford"), "moment"), "fate"), 0);
    }

    private static void book() {
        FordWord f = Fords.told("9;p0555555,p0555555,p0555555,p0555555,p0555555,p0555555;a");
        for (int entry = 0; entry < 12; entry++) {
            if (entry == 6) {
                allWaitAgain(f);
            }
            // the first, the second and the last one are HEARD WRONG
            f.said(entry % 6, 0, entry < 2 || entry == 11 ? 0 : 1);
            S.is("entries", f.count(9), entry + 1);
        }
        S.is("twelve", f.heardWrong(0), 3);
        allWaitAgain(f);
        f.said(3, 0, 1);
        S.is("a thirteenth", f.count(9), 12);
        S.is("the oldest is lost", f.heardWrong(0), 2);
        f.said(4, 0, 1);
        S.is("a fourteenth", f.count(9), 12);
        S.is("the next is lost", f.heardWrong(0), 1);
        S.is("who", f.heardWrong(1), 5);
        f.undo();
        S.is("UNDONE", f.heardWrong(0), 2);
        f.undo();
        S.is("UNDONE", f.heardWrong(0), 3);
        S.is("UNDONE", f.count(9), 12);
        bookKeepsPass();
    }

    /** All are HEARD WRONG; LUCK is least of the second one, then of the fourth, then of those behind. */
    private static void bookKeepsPass() {
        FordWord f = Fords.told("9;p1555555,p1111111,p1555555,p1222222,p1555555,p1555555;a");
        for (int entry = 0; entry < 15; entry++) {
            if (entry % 6 == 0) {
                allWaitAgain(f);
            }
            if (entry == 6) {
                f.can(1, 0, 5);
                f.can(3, 0, 5);
                f.can(4, 0, 3);
            }
            f.rest();
            f.said(entry % 6, 0, 1);
            S.is("who, of " + entry, f.heardWrong(1), entry == 0 ? 0 : entry < 13 ? 1 : 3);
        }
        S.is("entries", f.count(9), 12);
        f.undo();
        f.undo();
        S.is("UNDONE", f.heardWrong(1), 3);
        f.undo();
        f.undo();
        S.is("UNDONE, the second is back", f.heardWrong(1), 1);
    }
}
