import java.math.BigInteger;

/** Each promise of the document by itself: ordinary inputs, the edges that it names, wrong inputs. */
public final class PromiseTest {
    private static final int BAD = -1, NOT = -2, FULL = -3, NONE = -4, NULL = -11, CAST = -12, INDEX = -13, SIZE = -14;
    private static final int LOW = Integer.MIN_VALUE, HIGH = Integer.MAX_VALUE;
    private static final Due DUE = new Due();

    private PromiseTest() {
    }

    public static void main(String[] args) {
        p1NewObject();
        p2Speaker();
        p3Can();
        p4Word();
        p5Guard();
        p6Of();
        p7Skill();
        p8Type();
        p9Tongues();
        p9Faults();
        p10Count();
        p11Worn();
        p12Ask();
        p13Said();
        p14Teach();
        p15Rest();
        p16Undo();
        p17Seed();
        p18Pass();
        p19Wrongs();
        p20Parting();
        p21Learn();
        p22Cross();
        p23Line();
        p24Proof();
        p25HeardWrong();
        p26And27Image();
        p28Who();
        p28WhoRefused();
        p29Film();
        p30Sheet();
        p31Drop();
        p32Item();
        p33Copy();
        DUE.end();
    }

    private static void due(String call, long got, long want) {
        DUE.is(call, got, want);
    }

    /** Types a text and takes it as TONGUES. */
    private static int tongues(FordWord f, String text) {
        for (int at = 0; at < text.length(); at++) {
            f.type(text.charAt(at));
        }
        return f.tongues();
    }

    private static FordWord told(String text) {
        FordWord f = new FordWord();
        DUE.isTrue(text + " is TONGUES", tongues(f, text) > 0);
        return f;
    }

    /** A sheet of longs with these items. */
    private static void row(FordWord f, int sheet, long... items) {
        due("sheet", f.sheet(sheet, 3, items.length), items.length);
        for (int i = 0; i < items.length; i++) {
            due("item", f.item(sheet, 3, i, items[i]), 1);
        }
    }

    private static void p1NewObject() {
        FordWord f = new FordWord();
        int[] counts = {0, 0, 9, 4, 0, 9, 0, 0, 0, 0, 0};
        for (int what = 0; what < counts.length; what++) {
            due("new count " + what, f.count(what), counts[what]);
        }
        for (int sheet = 0; sheet < 4; sheet++) {
            due("new sheet", f.drop(sheet), NULL);
        }
        due("new draw", f.seed(5), 1);
        due("new tape", f.type('9'), 1);
        due("no speaker", f.of(0, 0), BAD);
        due("no word", f.worn(0, 0), BAD);
        due("no image", f.restore(), NONE);
        due("nothing to undo", f.undo(), NONE);
    }

    private static void p2Speaker() {
        FordWord f = new FordWord();
        int[][] wrong = {{-1, 0, 0}, {5, 0, 0}, {0, -1, 0}, {0, 2, 0}, {0, 0, -1}, {0, 0, 10}, {LOW, HIGH, LOW}};
        for (int[] w : wrong) {
            due("wrong speaker", f.speaker(w[0], w[1], w[2]), BAD);
        }
        due("none came", f.count(0), 0);
        f.word(63);
        f.rest();
        due("wrong speaker", f.speaker(5, 0, 0), BAD);
        due("refused, undo stays", f.count(10), 1);
        due("speaker 0", f.speaker(0, 1, 7), 0);
        due("a new speaker leaves nothing to undo", f.count(10), 0);
        for (int sound = 0; sound < 6; sound++) {
            due("can each", f.skill(0, 0, sound), 7);
        }
        due("kind", f.of(0, 0), 0);
        due("bank", f.of(0, 1), 1);
        due("waits", f.of(0, 2), 0);
        due("taught", f.of(0, 3), 0);
        for (int s = 1; s < 6; s++) {
            due("speaker", f.speaker(s - 1, 0, 9), s);
        }
        f.rest();
        due("a seventh", f.speaker(0, 0, 0), FULL);
        due("full, undo stays", f.count(10), 1);
        due("wrong and full", f.speaker(0, 0, 10), BAD);
        due("six", f.count(0), 6);
    }

    private static void p3Can() {
        FordWord f = told("9;p0123456;abcdef");
        due("can", f.can(0, 2, 9), 3);
        due("can again", f.can(0, 2, 0), 9);
        due("others stay", f.skill(0, 0, 1), 2);
        due("it is", f.skill(0, 0, 2), 0);
        int[][] wrong = {{-1, 0, 0}, {1, 0, 0}, {0, -1, 0}, {0, 6, 0}, {0, 0, -1}, {0, 0, 10}, {HIGH, HIGH, HIGH}};
        for (int[] w : wrong) {
            due("wrong can", f.can(w[0], w[1], w[2]), BAD);
        }
        due("nothing changed", f.skill(0, 0, 0), 1);
        f.said(0, 0, 0);
        due("of the dead too", f.can(0, 5, 1), 6);
        due("undo stays", f.count(10), 1);
    }

    private static void p4Word() {
        FordWord f = new FordWord();
        for (int w : new int[] {0, 64, -1, LOW, HIGH}) {
            due("wrong word", f.word(w), BAD);
        }
        f.rest();
        due("word", f.word(1), 0);
        due("a new word leaves nothing to undo", f.count(10), 0);
        int[] sets = {1, 63, 1, 32, 21, 42};
        for (int v = 1; v < 6; v++) {
            due("word", f.word(sets[v]), v);
        }
        due("a seventh", f.word(1), FULL);
        due("wrong and full", f.word(64), BAD);
        for (int v = 0; v < 6; v++) {
            due("its sounds", f.worn(v, 0), sets[v]);
        }
    }

    private static void p5Guard() {
        FordWord f = new FordWord();
        due("ear", f.guard(0, 10), 9);
        due("ear", f.guard(0, 0), 10);
        due("ear is", f.count(2), 0);
        due("tires", f.guard(1, 24), 4);
        due("tires", f.guard(1, 1), 24);
        due("tires is", f.count(3), 1);
        int[][] wrong = {{-1, 5}, {2, 5}, {0, -1}, {0, 11}, {1, 0}, {1, 25}, {LOW, LOW}};
        for (int[] w : wrong) {
            due("wrong guard", f.guard(w[0], w[1]), BAD);
        }
        due("ear stays", f.count(2), 0);
        due("tires stays", f.count(3), 1);
        f.rest();
        f.guard(0, 3);
        due("undo stays", f.undo(), 0);
        due("undo leaves the ear", f.count(2), 3);
    }

    private static void p6Of() {
        FordWord f = told("9;p0000000,c1000000,t0000000,m1000000,h0000000;a");
        for (int s = 0; s < 5; s++) {
            due("kind", f.of(s, 0), s);
            due("bank", f.of(s, 1), s % 2);
            due("waits", f.of(s, 2), 0);
        }
        f.teach(2, 5);
        f.teach(2, 0);
        due("taught", f.of(2, 3), 33);
        f.said(0, 0, 1);
        f.said(1, 0, 0);
        due("over", f.of(0, 2), 1);
        due("dead", f.of(1, 2), 2);
        int[][] wrong = {{-1, 0}, {5, 0}, {0, -1}, {0, 4}, {HIGH, HIGH}, {NONE, 0}};
        for (int[] w : wrong) {
            due("wrong of", f.of(w[0], w[1]), BAD);
        }
    }

    private static void p7Skill() {
        FordWord f = told("9;p0129456,c1129456,t0129456,m1999999,h0129456;a,b");
        int[][] untaught = {{1, 2, 9, 4, 5, 6}, {0, 0, 7, 2, 3, 4}, {1, 2, 9, 4, 5, 6}, {0, 0, 0, 0, 0, 0}, {5, 5, 9, 5, 5, 6}};
        skills(f, "untaught", 0, untaught);
        for (int s = 0; s < 5; s++) {
            for (int sound = 1; sound < 4; sound++) {
                f.teach(s, sound);
            }
        }
        // only APT, and CHILD below it, gain by being taught; 9 and 3 is 10 at most
        int[][] taught = {{1, 2, 9, 4, 5, 6}, {0, 0, 7, 2, 3, 4}, {1, 5, 10, 7, 5, 6}, {0, 0, 0, 0, 0, 0}, {5, 5, 10, 7, 5, 6}};
        skills(f, "taught", 0, taught);
        f.said(0, 0, 1);
        f.said(1, 0, 1);
        skills(f, "worn by 2", 0, taught);
        f.said(2, 0, 1);
        // a third of 3 more, for all but MUTE; what COLD lacks below 0 and CHILD below 5 is filled up ahead of it
        int[][] worn = {{2, 3, 10, 5, 6, 7}, {1, 1, 8, 3, 4, 5}, {2, 6, 10, 8, 6, 7}, {0, 0, 0, 0, 0, 0}, {6, 6, 10, 8, 6, 7}};
        skills(f, "worn by 3", 0, worn);
        skills(f, "the other word is not worn", 1, taught);
        int[][] wrong = {{-1, 0, 0}, {5, 0, 0}, {0, -1, 0}, {0, 2, 0}, {0, 0, -1}, {0, 0, 6}, {LOW, HIGH, LOW}};
        for (int[] w : wrong) {
            due("wrong skill", f.skill(w[0], w[1], w[2]), BAD);
        }
    }

    private static void skills(FordWord f, String what, int word, int[][] want) {
        for (int s = 0; s < want.length; s++) {
            for (int sound = 0; sound < 6; sound++) {
                due(what + " skill of " + s + " at " + sound, f.skill(s, word, sound), want[s][sound]);
            }
        }
    }

    private static void p8Type() {
        FordWord f = new FordWord();
        for (int letter : new int[] {31, 127, -1, 0, LOW, HIGH}) {
            due("wrong letter", f.type(letter), BAD);
        }
        due("the least letter", f.type(32), 1);
        due("the last letter", f.type(126), 2);
        for (int many = 3; many <= 90; many++) {
            due("type", f.type('x'), many);
        }
        due("one too many", f.type('x'), FULL);
        due("wrong and full", f.type(31), BAD);
        due("fault behind a blank", f.tongues(), -21);
        due("empty then", f.type('x'), 1);
    }

    private static void p9Tongues() {
        FordWord f = new FordWord();
        f.speaker(0, 0, 0);
        f.word(1);
        f.guard(1, 7);
        f.seed(77);
        f.teach(0, 1);
        f.said(0, 0, 1);
        due("all told", tongues(f, "3;p0123456,h1987650;af,bcde,f"), 2);
        int[] counts = {2, 3, 3, 7, 0, 3, 3, 0, 0, 0, 0};
        for (int what = 0; what < counts.length; what++) {
            due("count " + what, f.count(what), counts[what]);
        }
        due("draw stays", f.seed(1), 77);
        due("kind", f.of(1, 0), 4);
        due("bank", f.of(1, 1), 1);
        due("waits", f.of(0, 2), 0);
        due("not taught", f.of(0, 3), 0);
        due("not worn", f.worn(0, 1), 0);
        due("af", f.worn(0, 0), 33);
        due("bcde", f.worn(1, 0), 30);
        due("f", f.worn(2, 0), 32);
        for (int sound = 0; sound < 6; sound++) {
            due("can", f.can(0, sound, 0), sound + 1);
        }
        due("the other can", f.can(1, 5, 0), 0);
        due("blanks anywhere", tongues(f, " 0 ; t 1 9 8 7 6 5 4 ; a b , c "), 1);
        due("ear", f.count(2), 0);
        due("words", f.count(1), 2);
        due("ab", f.worn(0, 0), 3);
        due("six of both", tongues(f, "9;p0111111,p0111111,p0111111,p0111111,p0111111,p0111111;a,b,c,d,e,abcdef"), 6);
        due("six words", f.count(1), 6);
        due("the last word", f.worn(5, 0), 63);
    }

    private static void p9Faults() {
        Object[][] faults = {
            {"", 0}, {" ", 1}, {"   ", 3}, {"x", 0}, {"  x", 2}, {"9", 1}, {"9  ", 3}, {"9,", 1}, {"9 ,", 2}, {"99", 1},
            {"9;", 2}, {"9;;", 2}, {"9;q", 2}, {"9;P", 2}, {"9;p", 3}, {"9;p2", 3}, {"9;p  2", 5}, {"9;pp", 3},
            {"9;p0", 4}, {"9;p0a", 4}, {"9;p012345", 9}, {"9;p012345;a", 9}, {"9;p0123456", 10}, {"9;p01234567", 10},
            {"9;p0123456,", 11}, {"9;p0123456,;", 11}, {"9;p0123456:", 10}, {"9;p0123456;", 11}, {"9;p0123456; ", 12},
            {"9;p0123456;g", 11}, {"9;p0123456;A", 11}, {"9;p0123456;,", 11}, {"9;p0123456;aa", 12},
            {"9;p0123456;ba", 12}, {"9;p0123456;b a", 13}, {"9;p0123456;a,", 13}, {"9;p0123456;a, ", 14},
            {"9;p0123456;a,,", 13}, {"9;p0123456;a;", 12}, {"9;p0123456;abcdefa", 17}, {"9;p0123456;a,b,c,d,e,f,", 22},
            {"9;p0123456;a,b,c,d,e,f,a", 22}, {"9;p0123456;a.", 12},
            {"9;a", 2}, {"9;p;a", 3}, {"9;p,p0123456;a", 3}, {"9;p0123456,a", 11}, {"9;p0123456,p012345;a", 18},
            {"9;p0111111,p0111111,p0111111,p0111111,p0111111,p0111111,p0111111;a", 55},
        };
        for (Object[] fault : faults) {
            FordWord f = told("8;p0555555,c1444444;ab");
            f.teach(0, 0);
            due("fault of '" + fault[0] + "'", tongues(f, (String) fault[0]), -20 - (Integer) fault[1]);
            due("all else stays", f.count(0) * 1000 + f.count(1) * 100 + f.count(2) * 10 + f.count(4), 2181);
            due("undo stays", f.count(10), 1);
            due("sounds stay", f.worn(0, 0), 3);
            due("taught stays", f.of(0, 3), 1);
        }
    }

    private static void p10Count() {
        FordWord f = told("7;p0999999,p0999999,p0999999,p0999999;a,b,c");
        f.guard(1, 2);
        f.said(3, 0, 1);
        f.said(1, 0, 0);
        f.said(0, 0, 1);
        int[] counts = {4, 3, 7, 2, 3, 6, 4, 9, 2, 3, 3};
        for (int what = 0; what < counts.length; what++) {
            due("count " + what, f.count(what), counts[what]);
        }
        f.guard(0, 1);
        f.guard(1, 1);
        due("hears 0 at least", f.count(5), 0);
        for (int what : new int[] {-1, 11, LOW, HIGH}) {
            due("wrong count", f.count(what), BAD);
        }
    }

    private static void p11Worn() {
        FordWord f = told("9;p0999999,p0999999;ab,f");
        due("sounds", f.worn(1, 0), 32);
        f.ask(0, 1);
        f.said(1, 1, 0);
        due("worn", f.worn(1, 1), 2);
        due("the other", f.worn(0, 1), 0);
        f.rest();
        due("rest leaves it", f.worn(1, 1), 2);
        int[][] wrong = {{-1, 0}, {2, 0}, {0, -1}, {0, 2}, {LOW, HIGH}};
        for (int[] w : wrong) {
            due("wrong worn", f.worn(w[0], w[1]), BAD);
        }
    }

    /** The number that THE DRAW must be for the next one to be this. */
    private static int ahead(long next) {
        BigInteger ring = BigInteger.ONE.shiftLeft(31);
        BigInteger back = BigInteger.valueOf(1103515245).modInverse(ring);
        return BigInteger.valueOf(next - 12345).multiply(back).mod(ring).intValueExact();
    }

    private static void p12Ask() {
        FordWord f = told("9;p0999999,p1999999,p0999999,p0999999;a,b");
        // 9 by 9 and 1 by 1: 82 of a hundred
        f.seed(ahead(16L * 820000));
        due("just too much", f.ask(0, 0), 0);
        due("dead", f.of(0, 2), 2);
        due("the draw", f.seed(ahead(16L * 819999 + 15)), 16 * 820000);
        due("just less", f.ask(1, 0), 1);
        due("over", f.of(1, 2), 1);
        due("the draw", f.seed(ahead(16L * 3819999)), 16 * 819999 + 15);
        due("left over by a million", f.ask(2, 1), 1);
        due("hour", f.count(4), 3);
        due("worn", f.worn(0, 1) * 10 + f.worn(1, 1), 21);
        due("book", f.count(9), 3);
        due("undo", f.count(10), 3);
        due("the dead", f.ask(0, 0), NOT);
        due("the over", f.ask(1, 0), NOT);
        int[][] wrong = {{-1, 0}, {4, 0}, {3, -1}, {3, 2}, {0, 2}, {HIGH, LOW}};
        for (int[] w : wrong) {
            due("wrong ask", f.ask(w[0], w[1]), BAD);
        }
        due("hour stays", f.count(4), 3);
        due("draw stays", f.seed(1), 16 * 3819999);
        due("1 gives 970474, above 820000", f.ask(3, 1), 0);
        due("the draw", f.seed(1), 1103527590);
        FordWord wide = told("9;p0999999,p0999999;a");
        wide.seed(HIGH);
        wide.ask(0, 0);
        long next = (2147483647L * 1103515245L + 12345L) & 0x7fffffffL;
        due("31 bits alone", wide.seed(0), next);
    }

    private static void p13Said() {
        FordWord f = told("9;p0999999,c1999999,h0000000;a,ab");
        due("pass as it was", f.said(0, 0, 0), 820000);
        due("dead", f.of(0, 2), 2);
        due("pass as it was", f.said(1, 1, 1), 435600);
        due("over", f.of(1, 2), 1);
        due("draw stays", f.seed(1), 1);
        due("hour", f.count(4), 2);
        due("worn", f.worn(0, 1) * 10 + f.worn(1, 1), 11);
        due("book", f.count(9), 2);
        due("undo", f.count(10), 2);
        due("the dead", f.said(0, 0, 1), NOT);
        due("the over", f.said(1, 0, 0), NOT);
        int[][] wrong = {{-1, 0, 0}, {3, 0, 0}, {2, -1, 0}, {2, 2, 0}, {2, 0, -1}, {2, 0, 2}, {0, 0, 2}};
        for (int[] w : wrong) {
            due("wrong said", f.said(w[0], w[1], w[2]), BAD);
        }
        due("hour stays", f.count(4), 2);
        due("who waits", f.count(6), 4);
    }

    private static void p14Teach() {
        FordWord f = told("9;p0999999,t1000000;a");
        due("teach", f.teach(1, 3), 8);
        due("teach", f.teach(1, 0), 9);
        due("plain too", f.teach(0, 5), 32);
        due("hour", f.count(4), 3);
        due("undo", f.count(10), 3);
        due("not in the book", f.count(9), 0);
        due("taught already", f.teach(1, 3), NOT);
        f.said(0, 0, 1);
        due("over", f.teach(0, 1), NOT);
        f.said(1, 0, 0);
        due("dead", f.teach(1, 1), NOT);
        int[][] wrong = {{-1, 0}, {2, 0}, {0, -1}, {0, 6}, {LOW, HIGH}};
        for (int[] w : wrong) {
            due("wrong teach", f.teach(w[0], w[1]), BAD);
        }
        due("hour stays", f.count(4), 5);
        due("taught stays", f.of(1, 3), 9);
    }

    private static void p15Rest() {
        FordWord f = told("9;p0999999,p0999999;a");
        due("at 0", f.rest(), 0);
        for (int sound = 0; sound < 5; sound++) {
            f.teach(0, sound);
        }
        due("hears less", f.count(5), 8);
        due("rest", f.rest(), 5);
        due("hour", f.count(4), 0);
        due("hears again", f.count(5), 9);
        due("undo", f.count(10), 7);
        due("undone", f.undo(), 6);
        due("hour is back", f.count(4), 5);
    }

    private static void p16Undo() {
        FordWord f = told("9;p0999999,p1999999,t0111111;a,b");
        f.seed(9);
        f.ask(0, 0);
        f.said(1, 1, 1);
        f.teach(2, 4);
        f.rest();
        f.seed(123);
        f.can(0, 0, 3);
        f.guard(0, 5);
        f.guard(1, 9);
        due("rest undone", f.undo(), 3);
        due("hour", f.count(4), 3);
        due("taught still", f.of(2, 3), 16);
        due("teach undone", f.undo(), 2);
        due("not taught", f.of(2, 3), 0);
        due("hour", f.count(4), 2);
        due("said undone", f.undo(), 1);
        due("waits", f.count(6), 6);
        due("not worn", f.worn(1, 1), 0);
        due("book", f.count(9), 1);
        due("ask undone", f.undo(), 0);
        due("waits", f.count(6), 7);
        due("not worn", f.worn(0, 1), 0);
        due("book", f.count(9), 0);
        due("hour", f.count(4), 0);
        due("the draw is as ahead of it, whatever was told", f.seed(1), 9);
        due("what it can stays", f.can(0, 0, 9), 3);
        due("ear stays", f.count(2), 5);
        due("tires stays", f.count(3), 9);
        due("none", f.undo(), NONE);
        undoKnowsEight();
    }

    private static void undoKnowsEight() {
        FordWord f = told("9;p0999999,p1999999,t0111111;a,b");
        for (int many = 0; many < 11; many++) {
            f.teach(many / 6, many % 6);
            due("known", f.count(10), Math.min(8, many + 1));
        }
        for (int left = 7; left >= 0; left--) {
            due("undo", f.undo(), left);
            due("hour", f.count(4), left + 3);
        }
        due("older ones are lost", f.undo(), NONE);
        due("taught first", f.of(0, 3), 7);
        due("then", f.of(1, 3), 0);
        f.teach(1, 0);
        due("and on", f.undo(), 0);
        f.teach(1, 0);
        tongues(f, "nothing");
        due("refused tongues leave it", f.count(10), 1);
        tongues(f, "9;p0111111;a");
        due("tongues leave nothing", f.undo(), NONE);
    }

    private static void p17Seed() {
        FordWord f = new FordWord();
        due("seed", f.seed(0), 1);
        due("seed", f.seed(HIGH), 0);
        due("wrong", f.seed(-1), BAD);
        due("wrong", f.seed(LOW), BAD);
        due("seed", f.seed(1), HIGH);
        due("nothing to undo", f.count(10), 0);
    }

    private static void p18Pass() {
        FordWord f = told("9;p0987654,m1999999;a,abcdef,f");
        due("one sound", f.pass(0, 0, NONE), 820000);
        // 82 74 66 58 50 42 of a hundred, cut each time
        due("six sounds", f.pass(0, 1, NONE), 48779);
        due("hears 8 from hour 4 on", f.pass(0, 0, 4), 740000);
        due("still 9 in hour 3", f.pass(0, 0, 3), 820000);
        due("hears nothing", f.pass(0, 0, 9999), 100000);
        due("mute, unheard", f.pass(1, 1, 9999), 1000000);
        due("mute, heard", f.pass(1, 1, 0), 1);
        f.guard(0, 10);
        due("mute, all heard", f.pass(1, 0, NONE), 0);
        f.guard(1, 1);
        f.teach(1, 0);
        due("now is hour 1", f.pass(0, 0, NONE), 820000);
        due("hour 0", f.pass(0, 0, 0), 900000);
        f.said(0, 0, 1);
        due("of one over", f.pass(0, 2, 0), 400000);
        int[][] wrong = {{-1, 0, 0}, {2, 0, 0}, {0, -1, 0}, {0, 3, 0}, {0, 0, -1}, {0, 0, -3}, {0, 0, -5}, {0, 0, 10000},
            {0, 0, HIGH}, {0, 0, LOW}, {9, 0, NONE}};
        for (int[] w : wrong) {
            due("wrong pass", f.pass(w[0], w[1], w[2]), BAD);
        }
    }

    private static void p19Wrongs() {
        FordWord f = told("9;p0999999,p1555555,m1000000,p0222222;a,b");
        // 180000 lack, 500000 and 100000 pass, 740000 lack (2 by 9 and 8 by 1: 26)
        due("wrongs", f.wrongs(0), 180000 + 500000 + 100000 + 740000);
        f.said(3, 0, 1);
        due("who waits alone", f.wrongs(1), 780000);
        f.said(0, 0, 1);
        f.said(1, 0, 1);
        f.said(2, 0, 1);
        due("nobody", f.wrongs(0), 0);
        for (int w : new int[] {-1, 2, LOW, HIGH, NONE}) {
            due("wrong word", f.wrongs(w), BAD);
        }
        FordWord worn = told("9;p0999999,p0999999,p0999999,p0222222;a");
        for (int s = 0; s < 3; s++) {
            worn.said(s, 0, 1);
        }
        due("worn as it is now", worn.wrongs(0), 660000);
        worn.teach(3, 0);
        due("hour as it is now", worn.wrongs(0), 620000);
        due("nothing is changed", worn.count(4), 4);
    }

    private static void p20Parting() {
        FordWord f = new FordWord();
        due("no words", f.parting(0), NONE);
        due("no words", f.parting(1), NONE);
        due("wrong", f.parting(2), BAD);
        due("wrong", f.parting(-1), BAD);
        f.word(1);
        f.word(2);
        due("nobody: the first", f.parting(0), 0);
        due("nobody", f.parting(1), 0);
        tongues(f, "9;p0975111,m1000000;c,a,a,b");
        due("the first of the best", f.parting(0), 1);
        due("how much", f.parting(1), 180000 + 100000);
        f.said(0, 1, 1);
        due("among who waits", f.parting(1), 100000);
        due("like ones", f.parting(0), 0);
        due("wrong", f.parting(HIGH), BAD);
    }

    private static void p21Learn() {
        FordWord f = told("9;t0111111,p0111111,h0111222,t1999991;abc,af,bf");
        int[] sets = {0, 1, 3, 7, 7, 7, 7};
        // 1 is 18, 4 is 42 of a hundred: of like sets the least
        int[] much = {5832, 13608, 31752, 74088, 74088, 74088, 74088};
        for (int n = 0; n <= 6; n++) {
            due("set for " + n, f.learn(0, 0, n, 0), sets[n]);
            due("much for " + n, f.learn(0, 0, n, 1), much[n]);
        }
        due("plain gains nothing", f.learn(1, 0, 6, 0), 0);
        due("plain stays", f.learn(1, 0, 6, 1), 5832);
        due("child gains where it is above 5 then, not by none", f.learn(2, 0, 6, 0), 0);
        due("of the word alone", f.learn(0, 1, 6, 0), 33);
        due("9 gains by 1 only, 1 by 3", f.learn(3, 1, 1, 0), 32);
        f.teach(0, 0);
        due("not what it was taught", f.learn(0, 0, 1, 0), 2);
        due("not what it was taught", f.learn(0, 0, 6, 0), 6);
        due("with what it was taught", f.learn(0, 0, 0, 1), 13608);
        f.guard(0, 4);
        due("an ear that turns all round", f.learn(0, 0, 6, 0), 0);
        f.guard(0, 5);
        due("all like: the fewest", f.learn(0, 0, 6, 0), 0);
        due("hour stays", f.count(4), 1);
        due("taught stays", f.of(0, 3), 1);
        int[][] wrong = {{-1, 0, 0, 0}, {4, 0, 0, 0}, {0, -1, 0, 0}, {0, 3, 0, 0}, {0, 0, -1, 0}, {0, 0, 7, 0}, {0, 0, 0, -1},
            {0, 0, 0, 2}, {LOW, HIGH, LOW, HIGH}};
        for (int[] w : wrong) {
            due("wrong learn", f.learn(w[0], w[1], w[2], w[3]), BAD);
        }
    }

    private static void p22Cross() {
        FordWord f = told("9;p0999999,m1000000,p0555555;a");
        due("well heard: now", f.cross(0, 0, 0), 0);
        due("now", f.cross(0, 0, 1), 820000);
        due("the first hour of hearing 4", f.cross(1, 0, 0), 20);
        due("unheard", f.cross(1, 0, 1), 600000);
        due("like ones: the first", f.cross(2, 0, 0), 0);
        f.guard(1, 23);
        due("the 24th hour", f.cross(1, 0, 0), 23);
        f.guard(1, 24);
        due("the 25th is too late", f.cross(1, 0, 0), 0);
        f.teach(0, 0);
        due("from now on", f.cross(1, 0, 0), 24);
        due("how much", f.cross(1, 0, 1), 200000);
        due("now", f.cross(0, 0, 0), 1);
        due("hour stays", f.count(4), 1);
        f.guard(0, 1);
        f.guard(1, 2);
        due("the next hour, hearing nothing", f.cross(1, 0, 0), 2);
        due("how much", f.cross(1, 0, 1), 1000000);
        int[][] wrong = {{-1, 0, 0}, {3, 0, 0}, {0, -1, 0}, {0, 1, 0}, {0, 0, -1}, {0, 0, 2}, {HIGH, LOW, HIGH}};
        for (int[] w : wrong) {
            due("wrong cross", f.cross(w[0], w[1], w[2]), BAD);
        }
    }

    private static void p23Line() {
        FordWord f = told("9;p0999999,m1000000;a");
        f.guard(0, 10);
        f.guard(1, 1);
        // mute first: 0, then 9 heard by 9 lacks 180000; the other way round 100000 and 100000
        due("how much", f.line(0, -1), 180000);
        due("first", f.line(0, 0), 1);
        due("second", f.line(0, 1), 0);
        due("not so many", f.line(0, 2), NONE);
        due("not so many", f.line(0, HIGH), NONE);
        due("wrong", f.line(0, -2), BAD);
        due("wrong", f.line(0, LOW), BAD);
        due("wrong", f.line(-1, 0), BAD);
        due("wrong", f.line(1, 0), BAD);
        due("wrong word, not so many", f.line(1, 9), BAD);
        due("nothing is changed", f.count(4) + f.worn(0, 1) + f.count(10), 0);
        f.said(1, 0, 1);
        due("one left", f.line(0, 0), 0);
        due("one left", f.line(0, 1), NONE);
        f.said(0, 0, 1);
        due("nobody", f.line(0, -1), 0);
        due("nobody", f.line(0, 0), NONE);
        FordWord like = told("9;p1555555,p0555555,p0555555,p1555555;ab");
        like.said(1, 0, 0);
        like.guard(0, 5);
        due("like ones", like.line(0, -1), 250000 + 750000 + 250000);
        due("by numbers", like.line(0, 0) * 100 + like.line(0, 1) * 10 + like.line(0, 2), 23);
        FordWord worn = told("9;p1000000,p1000000,p1000000,p1222222;a");
        worn.guard(1, 24);
        // worn by 3 in the last turn: 1 for 0, or 3 for 2; 0 is 10, 1 is 18, 2 is 26, 3 is 34 of a hundred
        due("worn by each", worn.line(0, -1), 100000 + 100000 + 180000 + 260000);
        due("by numbers", worn.line(0, 3), 3);
    }

    private static void p24Proof() {
        FordWord f = new FordWord();
        due("nobody: no word", f.proof(1000000), 0);
        due("wrong", f.proof(-1), BAD);
        due("wrong", f.proof(1000001), BAD);
        due("wrong", f.proof(LOW), BAD);
        f.speaker(0, 0, 9);
        due("bank 0 alone: no word", f.proof(1000000), 0);
        f.speaker(3, 1, 0);
        due("bank 1 without a word", f.proof(0), 0);
        due("bank 1 without a word", f.proof(1), NONE);
        tongues(f, "9;p0999999,m1000000,p1333333;abcdef,a,ab,b");
        // by one sound 820000, 100000, 340000; by ab 672400, 10000, 115600
        due("one word", f.proof(660000), 2);
        due("one word: just", f.proof(672400), 4);
        due("none lets the other bank by so seldom", f.proof(672401), NONE);
        f.can(2, 0, 5);
        // by a 500000, b 340000, ab 170000
        due("the least of one word", f.proof(500000), 2);
        due("ab, a lesser set than b", f.proof(500001), 4);
        FordWord two = told("9;p0999999,p1333333;a,b,a");
        due("two words", two.proof(670000), 3);
        two.said(0, 0, 1);
        two.said(1, 1, 1);
        due("whoever waits", two.proof(670000), 3);
        due("nothing is changed", two.count(4), 2);
        two.teach(0, 0);
        two.guard(0, 5);
        due("an ear that hears nothing", two.proof(500001), NONE);
        due("just", two.proof(500000), 1);
    }

    private static void p25HeardWrong() {
        FordWord f = told("9;p0999999,p1999999,p0333333,p1333333,p0666666,m1999999;a");
        due("none", f.heardWrong(0), 0);
        due("none", f.heardWrong(1), NONE);
        f.said(0, 0, 1);
        f.said(3, 0, 0);
        due("heard right", f.heardWrong(0), 0);
        due("heard right", f.heardWrong(1), NONE);
        f.said(2, 0, 0);
        due("one", f.heardWrong(0), 1);
        due("luck 660000", f.heardWrong(1), 2);
        f.rest();
        f.said(4, 0, 0);
        due("luck 420000 less 80000", f.heardWrong(1), 4);
        f.said(5, 0, 1);
        due("luck 100000", f.heardWrong(1), 5);
        f.said(1, 0, 1);
        due("four", f.heardWrong(0), 4);
        due("still", f.heardWrong(1), 5);
        f.undo();
        f.undo();
        due("undone", f.heardWrong(0), 2);
        due("undone", f.heardWrong(1), 4);
        for (int what : new int[] {-1, 2, LOW, HIGH}) {
            due("wrong", f.heardWrong(what), BAD);
        }
        FordWord like = told("9;p1555555,p0555555,p1555555;a");
        like.said(2, 0, 1);
        like.said(0, 0, 1);
        like.said(1, 0, 0);
        due("like ones: the first asked", like.heardWrong(1), 2);
        due("three", like.heardWrong(0), 3);
    }

    private static void p26And27Image() {
        FordWord f = told("9;p0999999,p1555555;a");
        due("none", f.restore(), NONE);
        f.guard(1, 6);
        f.seed(42);
        f.teach(0, 2);
        f.said(1, 0, 1);
        f.sheet(0, 0, 3);
        f.type('9');
        due("image", f.image(), 1);
        f.undo();
        f.rest();
        f.ask(0, 0);
        f.can(0, 0, 1);
        f.guard(0, 1);
        f.guard(1, 1);
        f.seed(43);
        f.speaker(4, 1, 2);
        f.word(9);
        f.sheet(0, 1, 4);
        f.type(';');
        due("restore", f.restore(), 1);
        int[] counts = {2, 1, 9, 6, 2, 9, 1, 2, 0, 1, 2};
        for (int what = 0; what < counts.length; what++) {
            due("count " + what, f.count(what), counts[what]);
        }
        due("draw", f.seed(42), 42);
        due("can", f.can(0, 0, 9), 9);
        due("worn", f.worn(0, 1), 1);
        due("taught", f.of(0, 3), 4);
        due("heard wrong", f.heardWrong(1), 1);
        due("sheets are as they are", f.drop(0), 4);
        due("the tape is as it is", f.type('p'), 3);
        due("undo as it was", f.undo(), 1);
        due("undo as it was", f.undo(), 0);
        due("waits", f.count(6), 3);
        tongues(f, "");
        tongues(f, "1;p0000000;b");
        due("restore again", f.restore(), 1);
        due("as it was", f.count(10), 2);
        due("as it was", f.count(0), 2);
        due("a new image", tongues(f, "1;p0000000;b") + f.image(), 2);
        f.speaker(0, 0, 0);
        f.restore();
        due("the new image", f.count(0), 1);
        due("no undo in it", f.undo(), NONE);
        imageKeepsBookAndPast();
    }

    private static void imageKeepsBookAndPast() {
        FordWord f = told("9;p0999999,p1222222,p1555555;a");
        f.teach(0, 0);
        f.said(2, 0, 1);
        f.said(1, 0, 1);
        f.image();
        tongues(f, "9;p0111111,p0111111,p0111111;b,c");
        f.teach(2, 5);
        f.said(0, 1, 1);
        f.said(1, 1, 0);
        f.said(2, 1, 0);
        f.restore();
        due("the book", f.heardWrong(0), 2);
        due("260000 is less than 500000", f.heardWrong(1), 1);
        f.undo();
        due("waits", f.count(6), 3);
        due("the book", f.heardWrong(1), 2);
        f.undo();
        due("waits", f.count(6), 7);
        due("taught", f.of(0, 3), 1);
        f.undo();
        due("not taught", f.of(0, 3), 0);
        due("hour", f.count(4), 0);
    }

    private static void p28Who() {
        FordWord f = told("9;p0999999,p1555555,m1000000;a,bc");
        row(f, 1, 0, 1, 1, 0, 0, 1, 0, 1, 9, 9);
        // a passed: 820000, 500000, 100000
        due("part", f.who(1, 3, 0, 1, 0), 577464);
        due("part", f.who(1, 3, 0, 1, 1), 352112);
        due("part", f.who(1, 3, 0, 1, 2), 70422);
        due("best", f.who(1, 3, 0, 1, NONE), 0);
        // bc not passed: 327600, 750000, 990000
        due("part", f.who(1, 3, 2, 1, 2), 478816);
        due("best", f.who(1, 3, 2, 1, NONE), 2);
        // both: 268632, 375000, 99000
        due("part", f.who(1, 3, 0, 2, 0), 361729);
        due("best", f.who(1, 3, 0, 2, NONE), 1);
        f.said(1, 1, 0);
        due("the dead too", f.who(1, 3, 0, 2, NONE), 1);
        f.guard(0, 10);
        f.can(0, 0, 0);
        f.can(1, 0, 0);
        due("none fits", f.who(1, 3, 0, 1, 0), 0);
        due("like ones: the first", f.who(1, 3, 0, 1, NONE), 0);
        FordWord nobody = new FordWord();
        nobody.word(1);
        row(nobody, 0, 0, 1);
        due("nobody", nobody.who(0, 3, 0, 1, NONE), NONE);
        due("no such one", nobody.who(0, 3, 0, 1, 0), BAD);
    }

    private static void p28WhoRefused() {
        FordWord f = told("9;p0999999,p1555555;a,b");
        f.sheet(2, 2, 16);
        due("eight words", f.who(2, 2, 0, 8, NONE), 1);
        int[][] bad = {{-1, 2, 0, 1, 0}, {4, 2, 0, 1, 0}, {2, -1, 0, 1, 0}, {2, 4, 0, 1, 0}, {2, 2, 0, 0, 0}, {2, 2, 0, 9, 0},
            {2, 2, 0, 1, -1}, {2, 2, 0, 1, 2}, {0, 2, 0, 9, 0}, {2, 1, 0, 1, -5}, {2, 2, HIGH, LOW, 0}};
        for (int[] w : bad) {
            due("wrong who", f.who(w[0], w[1], w[2], w[3], w[4]), BAD);
        }
        due("missing", f.who(0, 2, -1, 1, 0), NULL);
        due("another lane", f.who(2, 3, -1, 1, 0), CAST);
        due("below", f.who(2, 2, -1, 1, 0), INDEX);
        due("below", f.who(2, 2, LOW, 8, 0), INDEX);
        due("above", f.who(2, 2, 15, 1, 0), INDEX);
        due("above", f.who(2, 2, 1, 8, 0), INDEX);
        due("above", f.who(2, 2, HIGH, 1, 0), INDEX);
        due("the last two", f.who(2, 2, 14, 1, NONE), 1);
        long[][] items = {{2, 0}, {-1, 0}, {0, 2}, {0, -1}, {1L << 31, 0}};
        for (long[] w : items) {
            f.item(2, 2, 2, w[0]);
            f.item(2, 2, 3, w[1]);
            due("not as told", f.who(2, 2, 0, 2, 0), NOT);
            due("the pair ahead of it", f.who(2, 2, 0, 1, NONE), 1);
            due("not as told, too far", f.who(2, 2, 2, 8, 0), INDEX);
        }
        row(f, 3, 1L << 32, 0);
        due("a long is a long", f.who(3, 3, 0, 1, 0), NOT);
    }

    private static void p29Film() {
        FordWord f = told("9;m1000000,p0888888;abcdef,ab");
        f.sheet(0, 3, 24);
        for (int i = 0; i < 24; i++) {
            f.item(0, 3, i, 9);
        }
        due("film", f.film(0, 0, 5, 0, 3, 2), 5);
        // by an ear of 9 a mute one passes six sounds by 1 of a million, from hour 4 on by 64
        due("ahead of it", f.who(0, 3, 0, 1, 0), NOT);
        due("1 1", f.who(0, 3, 2, 1, NONE), 1);
        due("1 1 1 1", f.who(0, 3, 2, 2, NONE), 1);
        due("1 64", f.who(0, 3, 5, 1, NONE), NOT);
        due("64 9", f.who(0, 3, 6, 1, NONE), NOT);
        f.teach(0, 0);
        due("from this hour on", f.film(0, 0, 24, 0, 3, 0), 24);
        due("1 1", f.who(0, 3, 1, 1, NONE), 1);
        due("1 64", f.who(0, 3, 2, 1, NONE), NOT);
        f.guard(0, 10);
        // 80 by 80 of a hundred: 640000, whose lowest eight bits are 0
        for (int lane = 0; lane < 4; lane++) {
            f.sheet(1, lane, 2);
            due("film", f.film(1, 1, 2, 1, lane, 0), 2);
            due("lowest bits", f.who(1, lane, 0, 1, NONE), lane == 0 ? 0 : NOT);
        }
        f.sheet(2, 1, 24);
        due("all of it", f.film(0, 0, 24, 2, 1, 0), 24);
        int[][] bad = {{-1, 0, 1, 2, 1, 0}, {2, 0, 1, 2, 1, 0}, {0, -1, 1, 2, 1, 0}, {0, 2, 1, 2, 1, 0}, {0, 0, 0, 2, 1, 0},
            {0, 0, 25, 2, 1, 0}, {0, 0, 1, -1, 1, 0}, {0, 0, 1, 4, 1, 0}, {0, 0, 1, 2, -1, 0}, {0, 0, 1, 2, 4, 0}, {9, 0, 1, 3, 0, -1}};
        for (int[] w : bad) {
            due("wrong film", f.film(w[0], w[1], w[2], w[3], w[4], w[5]), BAD);
        }
        due("missing", f.film(0, 0, 1, 3, 1, -1), NULL);
        due("another lane", f.film(0, 0, 1, 2, 0, -1), CAST);
        due("below", f.film(0, 0, 1, 2, 1, -1), INDEX);
        due("above", f.film(0, 0, 24, 2, 1, 1), INDEX);
        due("above", f.film(0, 0, 1, 2, 1, 24), INDEX);
        due("above", f.film(0, 0, 2, 2, 1, HIGH), INDEX);
        f.sheet(2, 1, 2);
        due("too far", f.film(0, 0, 3, 2, 1, 0), INDEX);
        due("refused, nothing changed", f.who(2, 1, 0, 1, NONE), 0);
    }

    private static void p30Sheet() {
        FordWord f = told("9;p0999999;a");
        for (int lane = 0; lane < 4; lane++) {
            due("sheet", f.sheet(lane, lane, 24), 24);
            due("its lane", f.item(lane, lane, 23, 0), 1);
            due("no other", f.item(lane, 3 - lane, 0, 0), CAST);
        }
        f.item(0, 0, 0, 5);
        due("a new row", f.sheet(0, 0, 2), 2);
        due("of zeros", f.who(0, 0, 0, 1, NONE), 0);
        due("empty", f.sheet(0, 1, 0), 0);
        due("nothing in it", f.item(0, 1, 0, 0), INDEX);
        int[][] bad = {{-1, 0, 0}, {4, 0, 0}, {0, -1, 0}, {0, 4, 0}, {0, 0, 25}, {0, 0, HIGH}, {4, 0, -1}, {0, 4, -1}};
        for (int[] w : bad) {
            due("wrong sheet", f.sheet(w[0], w[1], w[2]), BAD);
        }
        due("size", f.sheet(0, 0, -1), SIZE);
        due("size", f.sheet(0, 0, LOW), SIZE);
        due("refused, nothing changed", f.item(0, 1, 0, 0), INDEX);
    }

    private static void p31Drop() {
        FordWord f = new FordWord();
        due("missing", f.drop(3), NULL);
        f.sheet(3, 2, 7);
        due("drop", f.drop(3), 7);
        due("missing", f.drop(3), NULL);
        due("missing", f.item(3, 2, 0, 0), NULL);
        f.sheet(3, 2, 0);
        due("of none", f.drop(3), 0);
        for (int s : new int[] {-1, 4, LOW, HIGH}) {
            due("wrong drop", f.drop(s), BAD);
        }
    }

    private static void p32Item() {
        FordWord f = told("9;p0999999;a,b");
        long[] above = {256, 65536, 1L << 32, 0};
        for (int lane = 0; lane < 4; lane++) {
            f.sheet(0, lane, 2);
            due("item", f.item(0, lane, 0, 1 + above[lane]), 1);
            due("item", f.item(0, lane, 1, 1 - above[lane]), 1);
            due("its lowest bits", f.who(0, lane, 0, 1, NONE), 0);
            if (lane > 0) {
                f.item(0, lane, 0, above[lane - 1]);
                due("no fewer bits", f.who(0, lane, 0, 1, NONE), NOT);
            }
            // the highest bit that the lane holds makes it less than 0
            f.item(0, lane, 0, Long.MIN_VALUE >> (64 - (8 << lane)));
            due("highest bit", f.who(0, lane, 0, 1, NONE), NOT);
        }
        int[][] bad = {{-1, 3, 0}, {4, 3, 0}, {0, -1, 0}, {0, 4, 0}, {4, 4, -1}};
        for (int[] w : bad) {
            due("wrong item", f.item(w[0], w[1], w[2], 0), BAD);
        }
        due("missing", f.item(1, 3, -1, 0), NULL);
        due("another lane", f.item(0, 2, -1, 0), CAST);
        for (int i : new int[] {-1, 2, LOW, HIGH}) {
            due("index", f.item(0, 3, i, 0), INDEX);
        }
    }

    private static void p33Copy() {
        FordWord f = told("9;p0999999,m1000000;a,b");
        row(f, 0, 0, 1, 9, 1, 0);
        row(f, 1, 7, 7, 7);
        due("copy", f.copy(0, 0, 1, 1, 2), 2);
        due("came", f.who(1, 3, 1, 1, NONE), 0);
        due("ahead of it", f.who(1, 3, 0, 1, NONE), NOT);
        due("onto itself, up", f.copy(0, 0, 0, 1, 4), 4);
        // 0 0 1 9 1
        due("0 0", f.who(0, 3, 0, 1, NONE), 1);
        due("0 1", f.who(0, 3, 1, 1, NONE), 0);
        due("1 9", f.who(0, 3, 2, 1, NONE), NOT);
        due("onto itself, down", f.copy(0, 1, 0, 0, 4), 4);
        // 0 1 9 1 1
        due("0 1", f.who(0, 3, 0, 1, NONE), 0);
        due("1 1", f.who(0, 3, 3, 1, NONE), 0);
        due("1 9", f.who(0, 3, 1, 1, NONE), NOT);
        due("none, at the end", f.copy(0, 5, 1, 3, 0), 0);
        int[][] bad = {{-1, 0, 0, 0, 0}, {4, 0, 0, 0, 0}, {0, 0, -1, 0, 0}, {0, 0, 4, 0, 0}, {2, 0, 4, 0, 0}};
        for (int[] w : bad) {
            due("wrong copy", f.copy(w[0], w[1], w[2], w[3], w[4]), BAD);
        }
        f.sheet(2, 2, 3);
        due("missing", f.copy(3, 0, 2, 0, -1), NULL);
        due("missing", f.copy(2, 0, 3, 0, -1), NULL);
        due("missing", f.copy(3, 0, 3, 0, 0), NULL);
        due("unlike lanes", f.copy(2, 0, 0, 0, -1), CAST);
        int[][] far = {{-1, 0, 1}, {0, -1, 1}, {0, 0, -1}, {4, 0, 2}, {0, 2, 2}, {0, 0, 4}, {6, 0, 0}, {0, 4, 0}, {HIGH, 0, 1},
            {0, HIGH, HIGH}, {LOW, LOW, LOW}, {1, 1, HIGH}};
        for (int[] w : far) {
            due("too far", f.copy(0, w[0], 1, w[1], w[2]), INDEX);
        }
        due("refused, nothing changed", f.who(1, 3, 1, 1, NONE), 0);
    }
}
