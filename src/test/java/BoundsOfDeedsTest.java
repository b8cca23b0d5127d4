import java.math.BigInteger;

/** Promises 12 to 17 (what is done): each sentence that names a boundary case. */
public final class BoundsOfDeedsTest {
    private static final int BAD = -1, NOT = -2, NONE = -4;
    private static final int LOW = Integer.MIN_VALUE, HIGH = Integer.MAX_VALUE;
    private static final int MILLION = 1000000;
    private static final Sentences S = new Sentences();

    private BoundsOfDeedsTest() {
    }

    public static void main(String[] args) {
        p12();
        p12Draws();
        p12Full();
        p13();
        p14();
        p15();
        p16();
        p16Lost();
        p17();
        S.end(12, 17);
    }

    /** What THE DRAW must be for the next one to be this. */
    private static int ahead(long next) {
        BigInteger ring = BigInteger.ONE.shiftLeft(31);
        BigInteger back = BigInteger.valueOf(1103515245).modInverse(ring);
        return BigInteger.valueOf(next - 12345).multiply(back).mod(ring).intValueExact();
    }

    private static void p12() {
        S.holds(12, "BAD: there is no such SPEAKER", () -> S.range("speaker", BoundsOfDeedsTest::allWait, 0, 4, (f, v) -> f.ask(v, 0)));
        S.holds(12, "BAD: there is no such WORD", () -> S.range("word", Fords::crowd, 0, 2, (f, v) -> f.ask(1, v)));
        S.holds(12, "'NOT: it does not WAIT': OVER, DEAD", () -> {
            S.refused("OVER", Fords::crowd, f -> f.ask(0, 0), NOT);
            S.refused("OVER, another WORD", Fords::crowd, f -> f.ask(0, 2), NOT);
            S.refused("DEAD", Fords::full, f -> f.ask(5, 0), NOT);
        });
        S.holds(12, "'of several the first': BAD; NOT", () -> {
            S.refused("OVER, no such WORD", Fords::crowd, f -> f.ask(0, 3), BAD);
            S.refused("DEAD, no such WORD", Fords::full, f -> f.ask(5, -1), BAD);
        });
        S.holds(12, "'ASKED, one who WAITS is OVER or DEAD; the WORD is WORN by one more; it is the next HOUR'", () -> {
            FordWord f = Fords.told("9;p0999999,p1999999;a,b");
            f.seed(ahead(0));
            S.is("OVER", f.ask(1, 1), 1);
            S.is("OVER", f.count(7), 2);
            S.is("WAITS", f.count(6), 1);
            S.is("WORN", f.worn(1, 1), 1);
            S.is("the other WORD", f.worn(0, 1), 0);
            S.is("HOUR", f.count(4), 1);
            S.is("THE BOOK", f.count(9), 1);
            S.is("UNDONE", f.count(10), 1);
            f.seed(ahead(16L * 999999));
            S.is("DEAD", f.ask(0, 1), 0);
            S.is("DEAD", f.count(8), 1);
            S.is("WAITS", f.count(6), 0);
            S.is("WORN", f.worn(1, 1), 2);
            S.is("HOUR", f.count(4), 2);
        });
        S.holds(12, "by PASS as it was, ahead of the next HOUR and of WORN", () -> {
            // heard by 9: 820000; in the next HOUR by 8: 740000
            FordWord f = Fords.told("9;p0999999;a");
            f.guard(1, 1);
            f.seed(ahead(16L * 819999));
            S.is("of the HOUR", f.ask(0, 0), 1);
            // the third one to be asked: 4 is 42 of a hundred, WORN by 3 it would be 50
            FordWord worn = Fords.told("9;p0444444,p0444444,p0444444;a");
            worn.guard(1, 24);
            worn.said(0, 0, 1);
            worn.said(1, 0, 1);
            worn.seed(ahead(16L * 420000));
            S.is("of WORN", worn.ask(2, 0), 0);
        });
    }

    private static void allWait(FordWord f) {
        Fords.crowd(f);
        f.undo();
        f.undo();
    }

    /** One asked by a draw: the next number that THE DRAW becomes is told. */
    private static int drawn(String text, int ear, int taught, long next) {
        FordWord f = Fords.told(text);
        f.guard(0, ear);
        f.guard(1, 24);
        for (int sound = 0; sound < taught; sound++) {
            f.teach(0, sound);
        }
        f.seed(ahead(next));
        int came = f.ask(0, 0);
        S.is("THE DRAW then", f.seed(1), next);
        return came;
    }

    private static void p12Draws() {
        S.holds(12, "'less than PASS': just less, as much, more", () -> {
            S.is("819999", drawn("9;p0999999;a", 9, 0, 16L * 819999), 1);
            S.is("820000", drawn("9;p0999999;a", 9, 0, 16L * 820000), 0);
            S.is("820001", drawn("9;p0999999;a", 9, 0, 16L * 820001), 0);
        });
        S.holds(12, "'it by 16', cut", () -> {
            S.is("15 more", drawn("9;p0999999;a", 9, 0, 16L * 819999 + 15), 1);
            S.is("16 more", drawn("9;p0999999;a", 9, 0, 16L * 820000), 0);
            S.is("15 is 0", drawn("9;m0999999;abcdef", 9, 0, 15), 1);
            S.is("16 is 1", drawn("9;m0999999;abcdef", 9, 0, 16), 0);
        });
        S.holds(12, "'left over by a MILLION'", () -> {
            S.is("999999", drawn("9;m0999999;abcdef", 9, 0, 16L * 999999), 0);
            S.is("a MILLION is 0", drawn("9;m0999999;abcdef", 9, 0, 16L * MILLION), 1);
            S.is("134 MILLION is 0", drawn("9;m0999999;abcdef", 9, 0, 16L * 134 * MILLION), 1);
            S.is("134 MILLION and 1", drawn("9;m0999999;abcdef", 9, 0, 16L * (134 * MILLION + 1)), 0);
            // the greatest of 31 bits: 134217727, left over 217727; 2 is 26 of a hundred, 1 is 18
            S.is("the greatest", drawn("9;p0222222;a", 9, 0, HIGH), 1);
            S.is("the greatest", drawn("9;p0111111;a", 9, 0, HIGH), 0);
        });
        S.holds(12, "PASS 0: never; PASS a MILLION: always", () -> {
            S.is("never", drawn("9;m0999999;a", 10, 0, 0), 0);
            S.is("always", drawn("9;t0999999;a", 10, 1, 16L * 999999 + 15), 1);
            S.is("always", drawn("9;t0999999;a", 10, 1, 0), 1);
        });
        S.holds(12, "'the lowest 31 bits of itself times 1103515245 and 12345 more': no sum wraps around to below 0", () -> {
            int[][] next = {{0, 12345}, {1, 1103527590}, {2, 59559187}, {HIGH, 1043980748}, {HIGH - 1, 2087949151}};
            for (int[] draw : next) {
                FordWord f = Fords.told("9;p0555555;a");
                f.seed(draw[0]);
                f.ask(0, 0);
                S.is("behind " + draw[0], f.seed(0), draw[1]);
            }
        });
        S.holds(12, "a refused ask does not draw", () -> {
            FordWord f = Fords.of(Fords::crowd);
            f.ask(0, 0);
            f.ask(5, 0);
            f.ask(1, 3);
            S.is("THE DRAW", f.seed(1), 77);
        });
    }

    private static void p12Full() {
        S.holds(12, "'FULL: HOUR is 9999': the last HOUR that a run can come to, 42, is not FULL", () -> {
            FordWord f = Fords.told("9;p0555555,p0555555,p0555555,p0555555,p0555555,p0555555;a");
            for (int many = 0; many < 36; many++) {
                f.teach(many / 6, many % 6);
            }
            for (int s = 0; s < 5; s++) {
                f.said(s, 0, 1);
            }
            S.is("HOUR", f.count(4), 41);
            S.isTrue("ask", f.ask(5, 0) >= 0);
            S.is("HOUR", f.count(4), 42);
            S.is("behind it", f.ask(5, 0), NOT);
        });
    }

    private static void p13() {
        S.holds(13, "BAD: there is no such SPEAKER", () -> S.range("speaker", BoundsOfDeedsTest::allWait, 0, 4, (f, v) -> f.said(v, 0, 1)));
        S.holds(13, "BAD: there is no such WORD", () -> S.range("word", Fords::crowd, 0, 2, (f, v) -> f.said(1, v, 1)));
        S.holds(13, "BAD: 'what came (1 OVER, 0 DEAD)'", () -> S.range("is", Fords::crowd, 0, 1, (f, v) -> f.said(1, 0, v)));
        S.holds(13, "NOT: it does not WAIT: OVER, DEAD", () -> {
            S.refused("OVER", Fords::crowd, f -> f.said(0, 0, 1), NOT);
            S.refused("OVER", Fords::crowd, f -> f.said(0, 0, 0), NOT);
            S.refused("DEAD", Fords::full, f -> f.said(5, 0, 1), NOT);
        });
        S.holds(13, "'of several the first': BAD; NOT", () -> {
            S.refused("OVER, no such WORD", Fords::crowd, f -> f.said(0, 3, 1), BAD);
            S.refused("OVER, 2 came", Fords::crowd, f -> f.said(0, 0, 2), BAD);
            S.refused("DEAD, -1 came", Fords::full, f -> f.said(5, 0, -1), BAD);
        });
        S.holds(13, "1 is OVER, 0 is DEAD, however likely", () -> {
            // heard by 10, a MUTE one never passes
            FordWord f = Fords.told("9;m0999999,m0999999;a");
            f.guard(0, 10);
            S.is("PASS", f.said(0, 0, 1), 0);
            S.is("OVER", f.of(0, 2), 1);
            f.rest();
            f.guard(0, 0);
            S.is("PASS", f.said(1, 0, 0), MILLION);
            S.is("DEAD", f.of(1, 2), 2);
        });
        S.holds(13, "'PASS as it was', ahead of the next HOUR and of WORN", () -> {
            FordWord f = Fords.told("9;p0444444,p0444444,p0444444,p0444444;a");
            f.guard(1, 24);
            for (int s = 0; s < 3; s++) {
                S.is("WORN by " + s, f.said(s, 0, 1), 420000);
            }
            S.is("WORN by 3", f.said(3, 0, 1), 500000);
            FordWord tired = Fords.told("9;p0999999,p0999999;a");
            tired.guard(1, 1);
            S.is("HOUR 0", tired.said(0, 0, 1), 820000);
            S.is("HOUR 1", tired.said(1, 0, 1), 740000);
        });
        S.holds(13, "told, not drawn: THE DRAW stays", () -> {
            FordWord f = Fords.of(Fords::crowd);
            f.said(1, 0, 1);
            S.is("THE DRAW", f.seed(1), 77);
        });
        S.holds(13, "ASKED: WORN, HOUR, THE BOOK, UNDONE one more", () -> {
            FordWord f = Fords.told("9;p0999999;a,b");
            f.said(0, 1, 0);
            S.is("WORN", f.worn(1, 1), 1);
            S.is("the other", f.worn(0, 1), 0);
            S.is("HOUR", f.count(4), 1);
            S.is("THE BOOK", f.count(9), 1);
            S.is("UNDONE", f.count(10), 1);
        });
        S.holds(13, "FULL likewise: the last HOUR that a run can come to is not FULL", () -> {
            FordWord f = Fords.told("9;p0555555,p0555555,p0555555,p0555555,p0555555,p0555555;a");
            for (int many = 0; many < 36; many++) {
                f.teach(many / 6, many % 6);
            }
            for (int s = 0; s < 6; s++) {
                S.isTrue("said", f.said(s, 0, 1) >= 0);
            }
            S.is("HOUR", f.count(4), 42);
        });
    }

    private static void p14() {
        S.holds(14, "BAD: there is no such SPEAKER", () -> S.range("speaker", BoundsOfDeedsTest::allWait, 0, 4, (f, v) -> f.teach(v, 1)));
        S.holds(14, "BAD: 'SOUNDS are 0 .. 5'", () -> S.range("sound", Fords::crowd, 0, 5, (f, v) -> f.teach(1, v)));
        S.holds(14, "'NOT: it was'", () -> {
            S.refused("TAUGHT it", Fords::crowd, f -> f.teach(2, 0), NOT);
            FordWord f = Fords.told("9;p0111111;a");
            for (int sound = 0; sound < 6; sound++) {
                S.is("teach", f.teach(0, sound), (2 << sound) - 1);
                S.is("again", f.teach(0, sound), NOT);
            }
            S.is("HOUR", f.count(4), 6);
        });
        S.holds(14, "'NOT: does not WAIT': OVER, DEAD", () -> {
            S.refused("OVER", Fords::crowd, f -> f.teach(0, 1), NOT);
            S.refused("DEAD", Fords::full, f -> f.teach(5, 5), NOT);
        });
        S.holds(14, "'of several the first': BAD; NOT", () -> {
            S.refused("OVER, no such SOUND", Fords::crowd, f -> f.teach(0, 6), BAD);
            S.refused("DEAD, no such SOUND", Fords::full, f -> f.teach(5, -1), BAD);
            S.refused("OVER, SOUND 32", Fords::crowd, f -> f.teach(0, 32), BAD);
        });
        S.holds(14, "'SOUNDS it was TAUGHT then (a set)': the first SOUND, the last, of each KIND", () -> {
            FordWord f = Fords.told("9;p0111111,c0111111,t0111111,m0111111,h0111111;a");
            for (int s = 0; s < 5; s++) {
                S.is("the last", f.teach(s, 5), 32);
                S.is("the first", f.teach(s, 0), 33);
                S.is("TAUGHT", f.of(s, 3), 33);
            }
            S.is("HOUR", f.count(4), 10);
            S.is("no entry of THE BOOK", f.count(9), 0);
            S.is("not WORN", f.worn(0, 1), 0);
            S.is("THE DRAW", f.seed(0), 1);
        });
        S.holds(14, "FULL likewise: the last HOUR that a run can come to is not FULL", () -> {
            FordWord f = Fords.told("9;p0555555,p0555555,p0555555,p0555555,p0555555,p0555555;a");
            for (int s = 0; s < 5; s++) {
                for (int sound = 0; sound < 6; sound++) {
                    f.teach(s, sound);
                }
                f.said(s, 0, 1);
            }
            for (int sound = 0; sound < 6; sound++) {
                S.isTrue("teach", f.teach(5, sound) > 0);
            }
            S.is("HOUR", f.count(4), 41);
        });
    }

    private static void p15() {
        S.holds(15, "'RESTED: HOUR is 0 again'; 'the HOUR it was': 0, 1, the last that a run can come to", () -> {
            FordWord f = Fords.told("9;p0555555,p0555555,p0555555,p0555555,p0555555,p0555555;a");
            S.is("at 0", f.rest(), 0);
            f.teach(0, 0);
            S.is("at 1", f.rest(), 1);
            S.is("HOUR", f.count(4), 0);
            S.is("again", f.rest(), 0);
            f.undo();
            f.undo();
            for (int many = 1; many < 36; many++) {
                f.teach(many / 6, many % 6);
            }
            for (int s = 0; s < 6; s++) {
                f.said(s, 0, 1);
            }
            S.is("at 42", f.rest(), 42);
            S.is("HOUR", f.count(4), 0);
        });
        S.holds(15, "RESTED at HOUR 0 may be UNDONE too", () -> {
            FordWord f = new FordWord();
            f.rest();
            S.is("known", f.count(10), 1);
            S.is("undo", f.undo(), 0);
            S.is("HOUR", f.count(4), 0);
        });
        S.holds(15, "all but HOUR stays", () -> {
            FordWord f = Fords.of(BoundsOfDeedsTest::asked);
            f.rest();
            S.is("WAITS", f.count(6), 4);
            S.is("OVER", f.count(7), 1);
            S.is("DEAD", f.count(8), 2);
            S.is("TAUGHT", f.of(2, 3), 8);
            S.is("WORN", f.worn(0, 1), 2);
            S.is("THE BOOK", f.count(9), 2);
            S.is("THE DRAW", f.seed(1), 5);
        });
    }

    /** 0 is OVER, 1 is DEAD, 2 was TAUGHT SOUND 3. */
    private static void asked(FordWord f) {
        Fords.tongues(f, "9;p0555555,p1555555,p0555555;a,b");
        f.seed(5);
        f.teach(2, 3);
        f.said(0, 0, 1);
        f.said(1, 0, 0);
    }

    private static void p16() {
        S.holds(16, "'NONE: none is known'", () -> {
            S.refused("a new object", f -> { }, FordWord::undo, NONE);
            S.refused("TONGUES alone", f -> Fords.tongues(f, "9;p0111111;a"), FordWord::undo, NONE);
            S.refused("all UNDONE", f -> {
                Fords.crowd(f);
                f.undo();
                f.undo();
                f.undo();
            }, FordWord::undo, NONE);
        });
        S.holds(16, "'the latest ASKED is as it had not been'", () -> {
            for (int by = 0; by < 2; by++) {
                FordWord f = Fords.of(BoundsOfDeedsTest::asked);
                int came = by == 0 ? f.ask(2, 1) : f.said(2, 1, 1);
                S.isTrue("ASKED", came >= 0);
                S.is("undo", f.undo(), 3);
                S.is("WAITS", f.count(6), 4);
                S.is("WORN", f.worn(1, 1), 0);
                S.is("HOUR", f.count(4), 3);
                S.is("THE BOOK", f.count(9), 2);
                S.is("THE DRAW", f.seed(1), 5);
            }
        });
        S.holds(16, "'the latest TAUGHT is as it had not been'", () -> {
            FordWord f = Fords.of(BoundsOfDeedsTest::asked);
            f.teach(2, 5);
            S.is("undo", f.undo(), 3);
            S.is("TAUGHT", f.of(2, 3), 8);
            S.is("HOUR", f.count(4), 3);
        });
        S.holds(16, "'the latest RESTED is as it had not been'", () -> {
            FordWord f = Fords.of(BoundsOfDeedsTest::asked);
            f.rest();
            S.is("undo", f.undo(), 3);
            S.is("HOUR", f.count(4), 3);
        });
        S.holds(16, "'how many more may be', down to 0", () -> {
            FordWord f = Fords.of(BoundsOfDeedsTest::asked);
            S.is("undo", f.undo(), 2);
            S.is("undo", f.undo(), 1);
            S.is("undo", f.undo(), 0);
            S.is("undo", f.undo(), NONE);
            S.is("WAITS", f.count(6), 7);
            S.is("TAUGHT", f.of(2, 3), 0);
            S.is("HOUR", f.count(4), 0);
        });
        S.holds(16, "'THE DRAW as ahead of it, whatever was told since'", () -> {
            FordWord f = Fords.of(BoundsOfDeedsTest::asked);
            f.seed(6);
            f.rest();
            f.seed(7);
            f.undo();
            S.is("ahead of RESTED", f.seed(8), 6);
            f.undo();
            S.is("ahead of ASKED", f.seed(9), 5);
        });
        S.holds(16, "what is told is not UNDONE: can, EAR, TIRES", () -> {
            FordWord f = Fords.of(BoundsOfDeedsTest::asked);
            f.can(0, 0, 9);
            f.guard(0, 10);
            f.guard(1, 24);
            f.undo();
            S.is("can", f.can(0, 0, 0), 9);
            S.is("EAR", f.count(2), 10);
            S.is("TIRES", f.count(3), 24);
        });
    }

    private static void p16Lost() {
        S.holds(16, "'8 are known, older ones lost'", () -> {
            for (int done = 7; done <= 20; done++) {
                FordWord f = Fords.told("9;p0555555,p0555555,p0555555,p0555555;a");
                for (int many = 0; many < done; many++) {
                    f.teach(many / 6, many % 6);
                }
                int known = Math.min(8, done);
                for (int left = known - 1; left >= 0; left--) {
                    S.is("undo of " + done, f.undo(), left);
                    S.is("HOUR", f.count(4), done - known + left);
                }
                S.is("undo of " + done, f.undo(), NONE);
                S.is("the HOUR stays", f.count(4), done - known);
            }
        });
        S.holds(16, "UNDONE, what is done next is the latest", () -> {
            FordWord f = Fords.told("9;p0555555,p0555555;a");
            for (int sound = 0; sound < 6; sound++) {
                f.teach(0, sound);
                f.rest();
            }
            f.undo();
            f.undo();
            S.is("known", f.count(10), 6);
            f.teach(1, 0);
            S.is("known", f.count(10), 7);
            S.is("undo", f.undo(), 6);
            S.is("TAUGHT", f.of(1, 3), 0);
            S.is("of 0", f.of(0, 3), 31);
        });
        S.holds(16, "'TONGUES, a new SPEAKER, WORD leave nothing to be UNDONE'; a refused one leaves all", () -> {
            FordWord f = Fords.of(Fords::full);
            f.speaker(0, 0, 0);
            f.word(1);
            f.type('x');
            S.is("FULL", f.count(10), 8);
            f.tongues();
            S.is("TONGUES", f.undo(), NONE);
            f.rest();
            f.tongues();
            S.is("a FAULT", f.count(10), 1);
            f.speaker(9, 0, 0);
            S.is("BAD", f.count(10), 1);
            f.speaker(0, 0, 0);
            S.is("a new SPEAKER", f.undo(), NONE);
            f.rest();
            f.word(0);
            S.is("BAD", f.count(10), 1);
            f.word(1);
            S.is("a new WORD", f.undo(), NONE);
        });
        S.holds(16, "a refused call is nothing to be UNDONE", () -> {
            FordWord f = Fords.of(BoundsOfDeedsTest::asked);
            f.ask(0, 0);
            f.said(1, 0, 1);
            f.teach(2, 3);
            f.teach(2, 6);
            S.is("known", f.count(10), 3);
        });
        S.holds(16, "all 512 calls of an object", () -> {
            FordWord f = new FordWord();
            for (int calls = 0; calls < 500; calls++) {
                S.is("rest", f.rest(), 0);
            }
            for (int left = 7; left >= 0; left--) {
                S.is("undo", f.undo(), left);
            }
            S.is("undo", f.undo(), NONE);
        });
    }

    private static void p17() {
        S.holds(17, "'BAD: below 0'", () -> {
            for (int v : new int[] {-1, NONE, LOW, LOW + 1}) {
                S.refused("seed " + v, Fords::crowd, f -> f.seed(v), BAD);
            }
        });
        S.holds(17, "'THE DRAW becomes v: what it was': 0, the greatest of 31 bits", () -> {
            FordWord f = new FordWord();
            S.is("0", f.seed(0), 1);
            S.is("the greatest", f.seed(HIGH), 0);
            S.is("one less", f.seed(HIGH - 1), HIGH);
            S.is("1", f.seed(1), HIGH - 1);
        });
        S.holds(17, "nothing to be UNDONE by it", () -> {
            FordWord f = new FordWord();
            f.seed(4);
            S.is("known", f.count(10), 0);
            f.rest();
            f.seed(5);
            S.is("known", f.count(10), 1);
        });
    }
}
