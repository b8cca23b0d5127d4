import java.util.ArrayList;
import java.util.List;

/** Fords that tests begin with, and all that can be seen of one. */
final class Fords {
    private static final int NONE = FordWord.NONE, INDEX = FordWord.INDEX;
    private static final int FAR = 100;

    private Fords() {
    }

    interface Build {
        void make(FordWord f);
    }

    static FordWord of(Build build) {
        FordWord f = new FordWord();
        build.make(f);
        return f;
    }

    static void type(FordWord f, String text) {
        for (int at = 0; at < text.length(); at++) {
            f.type(text.charAt(at));
        }
    }

    static int tongues(FordWord f, String text) {
        type(f, text);
        return f.tongues();
    }

    static FordWord told(String text) {
        FordWord f = new FordWord();
        if (tongues(f, text) < 1) {
            throw new IllegalStateException("no TONGUES: " + text);
        }
        return f;
    }

    /** A SHEET of a LANE with these items. */
    static void row(FordWord f, int sheet, int lane, long... items) {
        f.sheet(sheet, lane, items.length);
        for (int i = 0; i < items.length; i++) {
            f.item(sheet, lane, i, items[i]);
        }
    }

    /**
     * Five SPEAKERS, one of each KIND, 0 is OVER, the others WAIT; three WORDS; three to be UNDONE; an IMAGE;
     * SHEET 0 of bytes, 1 of longs, 2 nothing, 3 of ints; two letters on THE TAPE.
     */
    static void crowd(FordWord f) {
        tongues(f, "9;p0989898,c0999999,t1301291,m1999999,h1203040;ad,bf,c");
        f.seed(77);
        f.guard(1, 3);
        f.teach(2, 0);
        f.image();
        f.said(0, 0, 1);
        f.rest();
        row(f, 0, 0, 0, 1, 2, 0, 1, 1);
        row(f, 1, 3);
        row(f, 3, 2, 2, 1, 1, 0, 0, 0, 1, 1);
        type(f, "8;");
    }

    /** Six SPEAKERS, 5 is DEAD, six WORDS, eight to be UNDONE, no IMAGE, no SHEETS, a TAPE of 90 letters. */
    static void full(FordWord f) {
        for (int s = 0; s < 6; s++) {
            f.speaker(s % 5, s % 2, s + 3);
        }
        for (int word = 0; word < 6; word++) {
            f.word(word * 9 + 5);
        }
        for (int many = 0; many < 9; many++) {
            f.teach(many % 5, many / 5);
        }
        f.said(5, 2, 0);
        type(f, "7;p1765432;abc,f" + " ".repeat(74));
    }

    /** Answers that tell all that can be seen of a ford. It is spent then; some 330 calls. */
    static List<Integer> seen(FordWord f) {
        List<Integer> all = new ArrayList<>();
        counts(f, all);
        for (int s = 0; s < 6; s++) {
            for (int what = 0; what < 4; what++) {
                all.add(f.of(s, what));
            }
            for (int sound = 0; sound < 6; sound++) {
                all.add(f.skill(s, 0, sound));
            }
            for (int word = 0; word < 6; word++) {
                all.add(f.pass(s, word, NONE));
            }
        }
        for (int word = 0; word < 6; word++) {
            all.add(f.worn(word, 0));
            all.add(f.worn(word, 1));
        }
        all.add(f.heardWrong(0));
        all.add(f.heardWrong(1));
        for (int sheet = 0; sheet < 4; sheet++) {
            sheet(f, sheet, all);
        }
        undone(f, all);
        all.add(f.restore());
        counts(f, all);
        undone(f, all);
        tape(f, all);
        return all;
    }

    private static void counts(FordWord f, List<Integer> all) {
        for (int what = 0; what <= 10; what++) {
            all.add(f.count(what));
        }
    }

    /** No call answers an item itself: WHO tells of each pair whether it is a WORD and 1 or 0, and of which. */
    private static void sheet(FordWord f, int sheet, List<Integer> all) {
        for (int lane = 0; lane < 4; lane++) {
            int is = f.item(sheet, lane, FAR, 0);
            all.add(is);
            for (int i = 0; i < 8 && is == INDEX; i++) {
                all.add(f.who(sheet, lane, i, 1, 1));
            }
        }
        all.add(f.drop(sheet));
    }

    private static void undone(FordWord f, List<Integer> all) {
        for (int many = 0; many < 10; many++) {
            all.add(f.seed(3));
            all.add(f.undo());
            all.add(f.count(4));
            all.add(f.count(6));
            all.add(f.heardWrong(0));
        }
    }

    private static void tape(FordWord f, List<Integer> all) {
        all.add(f.type('p'));
        type(f, "1111111;a");
        all.add(f.tongues());
        all.add(f.count(2));
        all.add(f.count(1));
    }
}
