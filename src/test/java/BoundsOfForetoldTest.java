/** Promises 18 to 27 (foretold, images): each sentence that names a boundary case. */
public final class BoundsOfForetoldTest {
    private static final int BAD = -1, NONE = -4;
    private static final int LOW = Integer.MIN_VALUE, HIGH = Integer.MAX_VALUE;
    private static final int MILLION = 1000000;
    private static final Sentences S = new Sentences();

    private BoundsOfForetoldTest() {
    }

    public static void main(String[] args) {
        p18();
        p18Parts();
        p19();
        p20();
        p21();
        p21Like();
        p22();
        p23();
        p23Order();
        p24();
        p24Fewest();
        p25();
        p25Luck();
        p26();
        p27();
        S.end(18, 27);
    }

    /** A ford of six of these by one WORD. */
    private static FordWord six(String speaker, String word) {
        return Fords.told("9;" + (speaker + ",").repeat(5) + speaker + ";" + word);
    }

    private static void teach(FordWord f, int speaker, int... sounds) {
        for (int sound : sounds) {
            f.teach(speaker, sound);
        }
    }

    private static void p18() {
        S.holds(18, "BAD: there is no such SPEAKER", () -> S.range("speaker", Fords::crowd, 0, 4, (f, v) -> f.pass(v, 0, NONE)));
        S.holds(18, "BAD: there is no such WORD", () -> S.range("word", Fords::crowd, 0, 2, (f, v) -> f.pass(0, v, 0)));
        S.holds(18, "BAD: 'an HOUR (0 .. 9999; NONE: now)'", () -> {
            S.range("hour", Fords::crowd, 0, 9999, (f, v) -> f.pass(0, 0, v));
            for (int hour : new int[] {-2, -3, -5, -14}) {
                S.refused("hour " + hour, Fords::crowd, f -> f.pass(0, 0, hour), BAD);
            }
        });
        S.holds(18, "NONE: now, not HOUR 0", () -> {
            FordWord f = Fords.told("9;p0999999;a");
            f.guard(1, 1);
            S.is("HOUR 0", f.pass(0, 0, NONE), 820000);
            f.teach(0, 1);
            S.is("HOUR 1", f.pass(0, 0, NONE), 740000);
            S.is("in HOUR 0", f.pass(0, 0, 0), 820000);
        });
        S.holds(18, "in an HOUR: HEARS 'EAR, less a TIRESth of the HOUR, 0 at least'", () -> {
            FordWord f = Fords.told("9;m0999999;a");
            int[][] parts = {{0, 100000}, {3, 100000}, {4, 200000}, {7, 200000}, {8, 300000}, {31, 800000}, {32, 900000},
                {35, 900000}, {36, MILLION}, {37, MILLION}, {40, MILLION}, {9998, MILLION}, {9999, MILLION}};
            for (int[] part : parts) {
                S.is("HOUR " + part[0], f.pass(0, 0, part[0]), part[1]);
            }
            f.guard(1, 24);
            S.is("HOUR 23, TIRES 24", f.pass(0, 0, 23), 100000);
            S.is("HOUR 24, TIRES 24", f.pass(0, 0, 24), 200000);
            f.guard(1, 1);
            S.is("HOUR 1, TIRES 1", f.pass(0, 0, 1), 200000);
            S.is("HOUR 9, TIRES 1", f.pass(0, 0, 9), MILLION);
        });
        S.holds(18, "whoever WAITS, or not; WORN as it is", () -> {
            FordWord f = six("p0444444", "a");
            f.guard(1, 24);
            for (int s = 0; s < 6; s++) {
                S.is("WORN by " + s, f.pass(0, 0, NONE), s < 3 ? 420000 : 500000);
                f.said(s, 0, s % 2);
            }
            S.is("WORN by 6", f.pass(5, 0, NONE), 580000);
        });
    }

    private static void p18Parts() {
        S.holds(18, "'for each of its SOUNDS, rising, .. by 100, cut'", () -> {
            // cut once it were 29840, falling 29838
            S.is("9 7 9 9 0 9", Fords.told("9;p0979909;abcdef").pass(0, 0, NONE), 29839);
        });
        S.holds(18, "PASS 0", () -> {
            FordWord f = Fords.told("9;m0999999,p0090000;a,ab");
            f.guard(0, 10);
            S.is("MUTE, all heard", f.pass(0, 0, NONE), 0);
            S.is("one SOUND is 0", f.pass(1, 1, NONE), 0);
            S.is("cut to 1 by six tenths", Fords.told("9;m0999999;abcdef").pass(0, 0, NONE), 1);
        });
        S.holds(18, "PASS a MILLION", () -> {
            FordWord f = Fords.told("9;m0999999,t0999999;abcdef,a");
            S.is("MUTE, none heard", f.pass(0, 0, 9999), MILLION);
            f.guard(0, 10);
            f.guard(1, 24);
            S.is("9", f.pass(1, 1, NONE), 900000);
            f.teach(1, 0);
            S.is("10", f.pass(1, 1, NONE), MILLION);
        });
        S.holds(18, "heard by 5: a half for each SOUND, whatever the SKILL", () -> {
            FordWord f = Fords.told("5;m0999999,p0999999,h0111111;abcdef,f");
            for (int s = 0; s < 3; s++) {
                S.is("six SOUNDS", f.pass(s, 0, NONE), 15625);
                S.is("one SOUND", f.pass(s, 1, NONE), 500000);
            }
        });
    }

    private static void p19() {
        S.holds(19, "BAD: there is no such WORD", () -> {
            S.range("word", Fords::crowd, 0, 2, (f, v) -> f.wrongs(v));
            S.refused("NONE", Fords::crowd, f -> f.wrongs(NONE), BAD);
        });
        S.holds(19, "nobody: 0", () -> {
            FordWord f = new FordWord();
            f.word(63);
            S.is("wrongs", f.wrongs(0), 0);
        });
        S.holds(19, "'for all who WAIT': the last one, none", () -> {
            FordWord f = six("p1555555", "a");
            for (int s = 0; s < 6; s++) {
                S.is(s + " do not", f.wrongs(0), (6 - s) * 500000);
                f.guard(0, 5);
                f.said(s, 0, s % 2);
                f.rest();
            }
            S.is("none", f.wrongs(0), 0);
        });
        S.holds(19, "BANK 0: what all lack of a MILLION, all of it, nothing", () -> {
            FordWord f = six("m0999999", "a");
            f.guard(0, 10);
            S.is("all of it", f.wrongs(0), 6 * MILLION);
            f.guard(0, 0);
            S.is("nothing", f.wrongs(0), 0);
        });
        S.holds(19, "BANK 1: PASS of all, a MILLION, nothing", () -> {
            FordWord f = six("m1999999", "abcdef");
            f.guard(0, 0);
            S.is("a MILLION each", f.wrongs(0), 6 * MILLION);
            f.guard(0, 10);
            S.is("nothing", f.wrongs(0), 0);
        });
        S.holds(19, "'as it is now (HOUR, WORN)'", () -> {
            FordWord f = Fords.told("9;p1444444,p1444444,p1444444,p1444444;a");
            f.guard(1, 3);
            S.is("HOUR 0", f.wrongs(0), 4 * 420000);
            f.said(0, 0, 1);
            f.said(1, 0, 1);
            S.is("HOUR 2, WORN by 2", f.wrongs(0), 2 * 420000);
            f.said(2, 0, 1);
            // 5 of ten, heard by 8
            S.is("HOUR 3, WORN by 3", f.wrongs(0), 500000);
            f.can(3, 0, 9);
            // 10 of ten, heard by 8
            S.is("HOUR 3, WORN by 3", f.wrongs(0), 800000);
        });
    }

    private static void p20() {
        S.holds(20, "BAD: what is 0 or 1", () -> S.range("what", Fords::crowd, 0, 1, (f, v) -> f.parting(v)));
        S.holds(20, "NONE: 'none without WORDS'", () -> {
            S.refused("nobody", f -> { }, f -> f.parting(0), NONE);
            S.refused("nobody", f -> { }, f -> f.parting(1), NONE);
            S.refused("two", f -> f.speaker(0, 0, 9), f -> f.parting(0), NONE);
            S.refused("two", f -> f.speaker(0, 0, 9), f -> f.parting(1), NONE);
        });
        S.holds(20, "a number that is not as told is BAD, WORDS or not", () -> {
            for (int what : new int[] {-1, 2, NONE, LOW, HIGH}) {
                S.refused("what " + what, f -> { }, f -> f.parting(what), BAD);
            }
        });
        S.holds(20, "nobody, nobody who WAITS: all like, the first; 0", () -> {
            FordWord f = new FordWord();
            f.word(3);
            f.word(1);
            S.is("nobody", f.parting(0), 0);
            S.is("nobody", f.parting(1), 0);
            f.speaker(0, 0, 1);
            S.is("one", f.parting(0), 1);
            f.said(0, 1, 1);
            S.is("who does not WAIT", f.parting(0), 0);
            S.is("who does not WAIT", f.parting(1), 0);
        });
        S.holds(20, "'of least WRONGS': the first WORD, the last of six", () -> {
            S.is("the first", Fords.told("9;p0987654;a,b,c,d,e,f").parting(0), 0);
            S.is("how much", Fords.told("9;p0987654;a,b,c,d,e,f").parting(1), 180000);
            S.is("the last", Fords.told("9;p0456789;a,b,c,d,e,f").parting(0), 5);
            S.is("how much", Fords.told("9;p0456789;a,b,c,d,e,f").parting(1), 180000);
        });
        S.holds(20, "'of like ones the first'", () -> {
            S.is("all like", Fords.told("9;p0555555;a,b,c,d,e,f").parting(0), 0);
            S.is("two like", Fords.told("9;p0588555;a,c,b,d").parting(0), 1);
        });
        S.holds(20, "the greatest WRONGS: 6000000", () -> {
            FordWord f = six("m0999999", "abcdef");
            f.guard(0, 10);
            S.is("the WORD", f.parting(0), 0);
            S.is("how much", f.parting(1), 6 * MILLION);
        });
    }

    private static void p21() {
        S.holds(21, "BAD: there is no such SPEAKER", () -> S.range("speaker", Fords::crowd, 0, 4, (f, v) -> f.learn(v, 0, 1, 0)));
        S.holds(21, "BAD: there is no such WORD", () -> S.range("word", Fords::crowd, 0, 2, (f, v) -> f.learn(2, v, 1, 0)));
        S.holds(21, "BAD: 'n SOUNDS (0 .. 6)'", () -> S.range("n", Fords::crowd, 0, 6, (f, v) -> f.learn(2, 0, v, 1)));
        S.holds(21, "BAD: what is 0 or 1", () -> S.range("what", Fords::crowd, 0, 1, (f, v) -> f.learn(2, 0, 1, v)));
        S.holds(21, "'up to n SOUNDS': 0 .. 6 of six", () -> {
            FordWord f = Fords.told("9;t0111111;abcdef");
            // 1 is 18, 4 is 42 of a hundred: cut at each SOUND
            int[] much = {33, 79, 185, 432, 1008, 2352, 5488};
            for (int n = 0; n <= 6; n++) {
                S.is("the set for " + n, f.learn(0, 0, n, 0), (1 << n) - 1);
                S.is("how much for " + n, f.learn(0, 0, n, 1), much[n]);
            }
        });
        S.holds(21, "n above what there is to be TAUGHT", () -> {
            FordWord f = Fords.told("9;t0111111;f,abc");
            for (int n = 1; n <= 6; n++) {
                S.is("one SOUND", f.learn(0, 0, n, 0), 32);
            }
            teach(f, 0, 0, 2);
            S.is("one left", f.learn(0, 1, 6, 0), 2);
            f.teach(0, 1);
            S.is("none left", f.learn(0, 1, 6, 0), 0);
            S.is("none left", f.learn(0, 1, 6, 1), 74088);
        });
        S.holds(21, "'of a WORD'; 'that one was not TAUGHT'", () -> {
            FordWord f = Fords.told("9;t0911119;af,bc");
            teach(f, 0, 1);
            S.is("of bc, TAUGHT b", f.learn(0, 1, 6, 0), 4);
            S.is("of bc, with b", f.learn(0, 1, 0, 1), 75600);
            S.is("of af", f.learn(0, 0, 6, 0), 33);
        });
        S.holds(21, "'(no HOUR goes by)', nothing is changed", () -> {
            FordWord f = Fords.told("9;t0111111;a");
            f.guard(1, 1);
            S.is("how much", f.learn(0, 0, 1, 1), 420000);
            S.is("HOUR", f.count(4), 0);
            S.is("TAUGHT", f.of(0, 3), 0);
            S.is("UNDONE", f.count(10), 0);
        });
        S.holds(21, "refused by BAD alone: one who does not WAIT too", () -> {
            FordWord f = Fords.told("9;t0111111,t0111111;a");
            f.said(0, 0, 1);
            f.said(1, 0, 0);
            S.is("OVER", f.learn(0, 0, 1, 0), 1);
            S.is("DEAD", f.learn(1, 0, 1, 0), 1);
        });
    }

    private static void p21Like() {
        S.holds(21, "'of like ones the fewest SOUNDS': none, if none is more", () -> {
            S.is("PLAIN", Fords.told("9;p0111111;abcdef").learn(0, 0, 6, 0), 0);
            S.is("COLD", Fords.told("9;c0111111;abcdef").learn(0, 0, 6, 0), 0);
            S.is("MUTE", Fords.told("9;m0111111;abcdef").learn(0, 0, 6, 0), 0);
            S.is("CHILD up to 5", Fords.told("9;h0012012;abcdef").learn(0, 0, 6, 0), 0);
            S.is("heard by 5", Fords.told("5;t0111111;abcdef").learn(0, 0, 6, 0), 0);
            S.is("heard the other way round", Fords.told("4;t0111111;abcdef").learn(0, 0, 6, 0), 0);
        });
        S.holds(21, "the fewest: a SOUND that makes nothing more stays out", () -> {
            S.is("CHILD: 3 makes 6, 2 makes 5", Fords.told("9;h0232323;abcdef").learn(0, 0, 6, 0), 42);
            FordWord f = Fords.told("9;t0009999;ab,cd");
            f.guard(0, 10);
            // by 0 of one SOUND PASS is 0, whatever the other is
            S.is("one of two", f.learn(0, 0, 1, 0), 0);
            S.is("how much", f.learn(0, 0, 1, 1), 0);
            S.is("two of two", f.learn(0, 0, 2, 0), 3);
            S.is("how much", f.learn(0, 0, 2, 1), 90000);
        });
        S.holds(21, "'of these the least set'", () -> {
            S.is("two of bcdf", Fords.told("9;t0111111;bcdf").learn(0, 0, 2, 0), 6);
            S.is("one of def", Fords.told("9;t0111111;def").learn(0, 0, 1, 0), 8);
            S.is("two of ace, c is better", Fords.told("9;t0202020;abcdef").learn(0, 0, 2, 0), 10);
        });
        S.holds(21, "PASS is most: not the least set, if another is more", () -> {
            // 7 8 9 become 10: 66 74 82 become 90 of a hundred
            FordWord f = Fords.told("9;t0111987;def");
            S.is("one", f.learn(0, 0, 1, 0), 32);
            S.is("two", f.learn(0, 0, 2, 0), 48);
            S.is("three", f.learn(0, 0, 3, 0), 56);
            S.is("how much", f.learn(0, 0, 3, 1), 729000);
        });
    }

    private static void p22() {
        S.holds(22, "BAD: there is no such SPEAKER", () -> S.range("speaker", Fords::crowd, 0, 4, (f, v) -> f.cross(v, 0, 0)));
        S.holds(22, "BAD: there is no such WORD", () -> S.range("word", Fords::crowd, 0, 2, (f, v) -> f.cross(0, v, 0)));
        S.holds(22, "BAD: what is 0 or 1", () -> S.range("what", Fords::crowd, 0, 1, (f, v) -> f.cross(0, 0, v)));
        S.holds(22, "'among the next 24 (now, ..)': now, the last, none behind it", () -> {
            FordWord f = Fords.told("9;m0999999,p0999999;a");
            f.guard(1, 23);
            S.is("heard well: now", f.cross(1, 0, 0), 0);
            S.is("how much", f.cross(1, 0, 1), 820000);
            S.is("the last", f.cross(0, 0, 0), 23);
            S.is("how much", f.cross(0, 0, 1), 200000);
            f.guard(1, 24);
            S.is("one too late", f.cross(0, 0, 0), 0);
            S.is("how much", f.cross(0, 0, 1), 100000);
        });
        S.holds(22, "the HOUR itself, from this one on", () -> {
            FordWord f = Fords.told("9;m0999999,p0999999;a");
            f.guard(1, 24);
            f.teach(1, 0);
            S.is("now", f.cross(1, 0, 0), 1);
            S.is("the last", f.cross(0, 0, 0), 24);
            S.is("how much", f.cross(0, 0, 1), 200000);
            S.is("HOUR stays", f.count(4), 1);
        });
        S.holds(22, "not the HOUR ahead of now, better as it was; the very next one", () -> {
            FordWord f = Fords.told("9;m0999999,p0999999;a");
            teach(f, 1, 0, 1, 2, 3);
            S.is("heard by 8 from HOUR 4 on", f.cross(1, 0, 0), 4);
            S.is("how much", f.cross(1, 0, 1), 740000);
            FordWord next = six("m0999999", "a");
            next.guard(1, 24);
            for (int many = 0; many < 23; many++) {
                next.teach(many / 6, many % 6);
            }
            S.is("heard by 8 from HOUR 24 on", next.cross(0, 0, 0), 24);
            S.is("how much", next.cross(0, 0, 1), 200000);
        });
        S.holds(22, "'of like ones the first': all like; 0 heard from some HOUR on", () -> {
            S.is("heard by any", Fords.told("9;p0555555;abc").cross(0, 0, 0), 0);
            FordWord f = Fords.told("2;m0999999;a");
            f.guard(1, 1);
            S.is("0 from HOUR 2 on", f.cross(0, 0, 0), 2);
            S.is("how much", f.cross(0, 0, 1), MILLION);
            f.guard(0, 0);
            S.is("0 now", f.cross(0, 0, 0), 0);
        });
        S.holds(22, "from the last HOUR that a run can come to", () -> {
            FordWord f = six("m0999999", "a");
            for (int many = 0; many < 36; many++) {
                f.teach(many / 6, many % 6);
            }
            for (int s = 0; s < 6; s++) {
                f.said(s, 0, 1);
            }
            f.guard(1, 24);
            S.is("HOUR 48 is heard by 7", f.cross(0, 0, 0), 48);
            S.is("how much", f.cross(0, 0, 1), 300000);
        });
        S.holds(22, "WORN as it is: it is not ASKED", () -> {
            FordWord f = six("p0444444", "a");
            f.guard(1, 24);
            for (int s = 0; s < 3; s++) {
                f.said(s, 0, 1);
            }
            S.is("how much", f.cross(0, 0, 1), 500000);
            S.is("WORN", f.worn(0, 1), 3);
        });
    }

    private static void p23() {
        S.holds(23, "BAD: there is no such WORD", () -> {
            S.range("word", Fords::crowd, 0, 2, (f, v) -> f.line(v, -1));
            S.range("word", Fords::crowd, 0, 2, (f, v) -> f.line(v, 0));
        });
        S.holds(23, "'BAD: k below -1'", () -> {
            for (int k : new int[] {-2, -3, NONE, LOW, LOW + 1}) {
                S.refused("k " + k, Fords::crowd, f -> f.line(0, k), BAD);
            }
        });
        S.holds(23, "'the k-th (0 on; NONE: not so many)'", () -> {
            for (int k : new int[] {4, 5, 6, HIGH - 1, HIGH}) {
                S.refused("four WAIT, k " + k, Fords::crowd, f -> f.line(0, k), NONE);
            }
            FordWord f = six("p1555555", "a");
            for (int left = 6; left > 0; left--) {
                S.isTrue("the last of " + left, f.line(0, left - 1) >= 0);
                S.is("behind the last of " + left, f.line(0, left), NONE);
                f.said(left - 1, 0, 1);
            }
        });
        S.holds(23, "nobody WAITS: 0, none", () -> {
            FordWord f = new FordWord();
            f.word(1);
            S.is("nobody", f.line(0, -1), 0);
            S.is("nobody", f.line(0, 0), NONE);
            f.speaker(0, 0, 0);
            f.said(0, 0, 0);
            S.is("nobody WAITS", f.line(0, -1), 0);
            S.is("nobody WAITS", f.line(0, 0), NONE);
        });
        S.holds(23, "no such WORD and not so many, k below -1 and nobody: BAD", () -> {
            S.refused("word", Fords::crowd, f -> f.line(3, 4), BAD);
            S.refused("word", Fords::crowd, f -> f.line(-1, HIGH), BAD);
            S.refused("k", f -> f.word(1), f -> f.line(0, -2), BAD);
        });
        S.holds(23, "nothing is changed", () -> {
            FordWord f = six("p1555555", "a");
            f.line(0, -1);
            f.line(0, 5);
            S.is("WAITS", f.count(6), 63);
            S.is("HOUR", f.count(4), 0);
            S.is("WORN", f.worn(0, 1), 0);
            S.is("UNDONE", f.count(10), 0);
            S.is("THE BOOK", f.count(9), 0);
        });
        S.holds(23, "the greatest WRONGS: 6000000", () -> {
            FordWord f = six("m0999999", "a");
            f.guard(0, 10);
            f.guard(1, 24);
            S.is("how much", f.line(0, -1), 6 * MILLION);
            S.is("the last", f.line(0, 5), 5);
        });
    }

    private static void order(FordWord f, int... want) {
        for (int k = 0; k < want.length; k++) {
            S.is("the " + k + "th", f.line(0, k), want[k]);
        }
        S.is("no more", f.line(0, want.length), NONE);
    }

    private static void p23Order() {
        S.holds(23, "'of like ones the first (by numbers)'", () -> {
            FordWord f = six("p1555555", "a");
            f.guard(0, 5);
            f.guard(1, 24);
            S.is("how much", f.line(0, -1), 6 * 500000);
            order(f, 0, 1, 2, 3, 4, 5);
            f.said(0, 0, 1);
            f.said(3, 0, 0);
            order(f, 1, 2, 4, 5);
        });
        S.holds(23, "one WAITS", () -> {
            FordWord f = six("p1555555", "a");
            for (int s = 0; s < 5; s++) {
                f.said(s, 0, 1);
            }
            f.rest();
            f.can(5, 0, 9);
            // WORN by 5: 10 of ten, heard by 9
            S.is("how much", f.line(0, -1), 900000);
            order(f, 5);
        });
        S.holds(23, "'an HOUR each': the first in this HOUR, the sixth in the fifth to come", () -> {
            FordWord f = six("m1000000", "a");
            f.guard(0, 10);
            f.guard(1, 5);
            S.is("the sixth is heard by 9", f.line(0, -1), 100000);
            f.guard(1, 6);
            S.is("all are heard by 10", f.line(0, -1), 0);
            f.guard(1, 1);
            S.is("each less", f.line(0, -1), (1 + 2 + 3 + 4 + 5) * 100000);
        });
        S.holds(23, "'it WORN by each': the fourth by 3, the sixth by 5", () -> {
            FordWord f = six("p1000000", "a");
            f.guard(0, 10);
            f.guard(1, 24);
            S.is("three by 1 of ten", f.line(0, -1), 3 * 100000);
            f.said(0, 0, 0);
            S.is("WORN by 1: 1 .. 5", f.line(0, -1), 3 * 100000);
            f.said(1, 0, 0);
            S.is("WORN by 2: 2 .. 5", f.line(0, -1), 3 * 100000);
            f.said(2, 0, 0);
            S.is("WORN by 3: 3 .. 5", f.line(0, -1), 3 * 100000);
        });
        S.holds(23, "each turn by its own HOUR: a middle one first, the last one in the middle", () -> {
            // heard by 10, 9, 8: 0 lacks 400000, 420000, 440000, 2 lacks 100000, 180000, 260000; the MUTE one of BANK 1
            // passes by 0, 100000, 200000
            FordWord f = Fords.told("9;p0666666,m1000000,p0999999;a");
            f.guard(0, 10);
            f.guard(1, 1);
            S.is("how much", f.line(0, -1), 180000 + 440000);
            order(f, 1, 2, 0);
        });
        S.holds(23, "the best order is not by numbers: the last comes first", () -> {
            // heard by 10, then by 9: MUTE of BANK 1 loses least by being first
            FordWord f = Fords.told("9;p0999999,m1000000;a");
            f.guard(0, 10);
            f.guard(1, 1);
            S.is("how much", f.line(0, -1), 180000);
            order(f, 1, 0);
        });
    }

    private static void p24() {
        S.holds(24, "BAD: 's (0 .. 1000000)'", () -> S.range("s", f -> { }, 0, MILLION, (f, v) -> f.proof(v)));
        S.holds(24, "BAD ahead of NONE", () -> {
            Fords.Build none = f -> {
                f.speaker(0, 0, 9);
                f.speaker(0, 1, 9);
            };
            S.refused("as told", none, f -> f.proof(MILLION), NONE);
            S.refused("one more", none, f -> f.proof(MILLION + 1), BAD);
            S.refused("below", none, f -> f.proof(-1), BAD);
            S.refused("NONE", none, f -> f.proof(NONE), BAD);
        });
        S.holds(24, "nobody: no WORD is needed", () -> {
            S.is("no WORDS", new FordWord().proof(MILLION), 0);
            FordWord f = new FordWord();
            f.word(1);
            S.is("a WORD", f.proof(MILLION), 0);
            S.is("a WORD", f.proof(0), 0);
        });
        S.holds(24, "BANK 0 alone: by no WORD all PASS by a MILLION", () -> {
            S.is("no WORDS", Fords.of(f -> f.speaker(3, 0, 0)).proof(MILLION), 0);
            S.is("a WORD", Fords.told("9;m0111111;a").proof(MILLION), 0);
        });
        S.holds(24, "BANK 1 by no WORD: s 0 alone", () -> {
            FordWord f = Fords.of(g -> g.speaker(3, 1, 0));
            S.is("s 0", f.proof(0), 0);
            S.is("s 1", f.proof(1), NONE);
        });
        S.holds(24, "'BANK 0 PASS by s or more': just, not", () -> {
            // 900000 and 0 by a
            FordWord f = Fords.told("9;p0999999,m1999999;a");
            f.guard(0, 10);
            S.is("just", f.proof(900000), 1);
            S.is("not", f.proof(900001), NONE);
        });
        S.holds(24, "'BANK 1 by a MILLION less s or less': just, not", () -> {
            // 900000 and 200000
            FordWord f = Fords.told("9;p0999999,p1222222;a");
            f.guard(0, 10);
            S.is("just", f.proof(800000), 1);
            S.is("not", f.proof(800001), NONE);
        });
        S.holds(24, "s a MILLION: surely", () -> {
            FordWord f = Fords.told("9;t0999999,m1999999;b,a");
            f.guard(0, 10);
            f.guard(1, 24);
            S.is("not yet", f.proof(MILLION), NONE);
            f.teach(0, 0);
            S.is("10 and 0", f.proof(MILLION), 2);
        });
        S.holds(24, "'whoever WAITS, or not'", () -> {
            FordWord f = Fords.told("9;p0999999,m1999999,p1999999;a");
            f.guard(0, 10);
            f.said(2, 0, 0);
            S.is("the DEAD count", f.proof(500000), NONE);
            f.can(2, 0, 1);
            f.said(0, 0, 1);
            S.is("the OVER count", f.proof(900000), 1);
            S.is("the OVER count", f.proof(900001), NONE);
        });
        S.holds(24, "'as things are now (HOUR, WORN)', 'apart'", () -> {
            FordWord f = Fords.told("9;p0444444,p0444444,p0444444,m1000000;a,a");
            f.guard(0, 10);
            f.guard(1, 24);
            S.is("not WORN", f.proof(500000), NONE);
            for (int s = 0; s < 3; s++) {
                f.said(s, 1, 1);
            }
            S.is("the WORN one", f.proof(500000), 2);
            f.guard(1, 1);
            S.is("heard by 7: 500000, 300000", f.proof(500000), 2);
            S.is("heard by 7", f.proof(500001), NONE);
        });
    }

    private static void p24Fewest() {
        S.holds(24, "'the fewest WORDS': none to all six", () -> {
            // BANK 0 surely, BANK 1 by a half each WORD
            FordWord f = Fords.told("9;t0999999,p1555555;a,a,a,a,a,a");
            f.guard(0, 10);
            f.guard(1, 24);
            f.teach(0, 0);
            int[] s = {0, 500000, 750000, 875000, 937500, 968750, 984375};
            for (int many = 0; many <= 6; many++) {
                S.is(many + " just", f.proof(s[many]), (1 << many) - 1);
                S.is(many + " not", f.proof(s[many] + 1), many == 6 ? NONE : (2 << many) - 1);
            }
            S.is("a MILLION", f.proof(MILLION), NONE);
        });
        S.holds(24, "'the least such set': fewer WORDS go ahead of a lesser set", () -> {
            // a, b let BANK 1 by a half each, ab by 250000; s 750000 needs both, or the third
            FordWord f = Fords.told("9;t0999999,p1555555;a,b,ab,ab");
            f.guard(0, 10);
            f.guard(1, 24);
            teach(f, 0, 0, 1);
            S.is("one", f.proof(500000), 1);
            S.is("the third, not the first two", f.proof(750000), 4);
            S.is("two", f.proof(875000), 5);
        });
        S.holds(24, "'times PASS by each, rising, by a MILLION, cut'", () -> {
            // 29839, 29839: 890366 of a MILLION, cut to 890; a third time 26
            FordWord f = Fords.told("9;p1979909;abcdef,abcdef,abcdef");
            S.is("one", f.proof(MILLION - 29839), 1);
            S.is("two", f.proof(MILLION - 29838), 3);
            S.is("two", f.proof(MILLION - 890), 3);
            S.is("three", f.proof(MILLION - 889), 7);
            S.is("three", f.proof(MILLION - 26), 7);
            S.is("none", f.proof(MILLION - 25), NONE);
        });
        S.holds(24, "the whole set of six", () -> {
            FordWord f = Fords.told("9;t0999999,p1155555,p1515555,p1551555,p1555155,p1555515;a,b,c,d,e,f");
            f.guard(0, 10);
            f.guard(1, 24);
            teach(f, 0, 0, 1, 2, 3, 4, 5);
            // each by 1 of ten once, five times by a half: 3125 by all; 6250 or more without one of the WORDS
            S.is("all", f.proof(MILLION - 3125), 63);
            S.is("none", f.proof(MILLION - 3124), NONE);
        });
    }

    /** Two HEARD WRONG. */
    private static void wrong(FordWord f) {
        Fords.tongues(f, "9;p0999999,p1222222,p0555555;a");
        f.said(0, 0, 0);
        f.said(1, 0, 1);
    }

    private static void p25() {
        S.holds(25, "BAD: what is 0 or 1", () -> S.range("what", BoundsOfForetoldTest::wrong, 0, 1, (f, v) -> f.heardWrong(v)));
        S.holds(25, "THE BOOK is empty: 0; NONE", () -> {
            S.refused("who", f -> { }, f -> f.heardWrong(1), NONE);
            S.is("how many", new FordWord().heardWrong(0), 0);
            S.refused("who", f -> Fords.tongues(f, "9;p0999999;a"), f -> f.heardWrong(1), NONE);
            S.refused("what 2", f -> { }, f -> f.heardWrong(2), BAD);
        });
        S.holds(25, "'BANK 0 that came DEAD, of BANK 1 that came OVER', no others", () -> {
            for (int bank = 0; bank < 2; bank++) {
                for (int is = 0; is < 2; is++) {
                    FordWord f = Fords.told("9;p" + bank + "555555;a");
                    f.said(0, 0, is);
                    S.is("BANK " + bank + " came " + is, f.heardWrong(0), bank == is ? 1 : 0);
                    S.is("BANK " + bank + " came " + is, f.heardWrong(1), bank == is ? 0 : NONE);
                }
            }
        });
        S.holds(25, "all six, one of six", () -> {
            FordWord f = six("p0555555", "a");
            for (int s = 0; s < 6; s++) {
                f.said(5 - s, 0, 0);
                S.is("how many", f.heardWrong(0), s + 1);
            }
            FordWord one = six("p0555555", "a");
            for (int s = 0; s < 6; s++) {
                one.said(s, 0, s == 5 ? 0 : 1);
            }
            S.is("how many", one.heardWrong(0), 1);
            S.is("who", one.heardWrong(1), 5);
        });
        S.holds(25, "UNDONE, TONGUES: as THE BOOK is", () -> {
            FordWord f = Fords.of(BoundsOfForetoldTest::wrong);
            f.undo();
            S.is("how many", f.heardWrong(0), 1);
            S.is("who", f.heardWrong(1), 0);
            f.undo();
            S.is("none", f.heardWrong(1), NONE);
            FordWord g = Fords.of(BoundsOfForetoldTest::wrong);
            Fords.tongues(g, "9;p0999999,p1222222;a");
            S.is("none", g.heardWrong(0), 0);
        });
    }

    private static void p25Luck() {
        S.holds(25, "LUCK a MILLION, one HEARD WRONG: who", () -> {
            FordWord dead = Fords.told("9;m0999999;a");
            dead.guard(0, 10);
            dead.said(0, 0, 0);
            S.is("DEAD by PASS 0", dead.heardWrong(1), 0);
            FordWord over = Fords.told("0;m1999999;a");
            over.said(0, 0, 1);
            S.is("OVER by PASS a MILLION", over.heardWrong(1), 0);
        });
        S.holds(25, "LUCK 0 is least", () -> {
            FordWord f = Fords.told("9;m0999999,p1111111,m1999999;a");
            f.guard(0, 10);
            f.guard(1, 24);
            f.said(0, 0, 0);
            f.said(1, 0, 1);
            S.is("100000", f.heardWrong(1), 1);
            f.said(2, 0, 1);
            S.is("0", f.heardWrong(1), 2);
        });
        S.holds(25, "'PASS, if OVER; a MILLION less it, if DEAD'", () -> {
            // OVER by 260000; DEAD by 820000: 180000
            FordWord f = Fords.told("9;p1222222,p0999999;a");
            f.said(0, 0, 1);
            f.said(1, 0, 0);
            S.is("180000", f.heardWrong(1), 1);
            // OVER by 100000; DEAD by 820000
            FordWord g = Fords.told("9;m1222222,p0999999;a");
            g.said(0, 0, 1);
            g.said(1, 0, 0);
            S.is("100000", g.heardWrong(1), 0);
        });
        S.holds(25, "one HEARD right is none of these, whatever its LUCK", () -> {
            FordWord f = Fords.told("9;m0999999,p0555555;a");
            f.said(0, 0, 1);
            f.said(1, 0, 0);
            S.is("500000, not 100000", f.heardWrong(1), 1);
        });
        S.holds(25, "'of like ones the first' of THE BOOK", () -> {
            FordWord f = six("p0555555", "a");
            for (int s = 5; s >= 0; s--) {
                f.guard(0, 5);
                f.said(s, 0, 0);
                S.is("who", f.heardWrong(1), 5);
            }
        });
        S.holds(25, "'what PASS was': not what it is", () -> {
            FordWord f = Fords.told("9;p1222222,p1333333;a");
            f.said(0, 0, 1);
            f.said(1, 0, 1);
            f.can(0, 0, 9);
            f.can(1, 0, 0);
            S.is("who", f.heardWrong(1), 0);
        });
    }

    private static void p26() {
        S.holds(26, "an IMAGE of a new object", () -> {
            FordWord f = new FordWord();
            S.is("image", f.image(), 1);
            Fords.crowd(f);
            f.image();
            FordWord g = new FordWord();
            g.image();
            g.speaker(0, 0, 9);
            g.word(1);
            g.guard(0, 1);
            g.guard(1, 1);
            g.seed(9);
            g.ask(0, 0);
            S.is("restore", g.restore(), 1);
            int[] counts = {0, 0, 9, 4, 0, 9, 0, 0, 0, 0, 0};
            for (int what = 0; what < counts.length; what++) {
                S.is("count " + what, g.count(what), counts[what]);
            }
            S.is("THE DRAW", g.seed(1), 1);
        });
        S.holds(26, "'All but SHEETS, THE TAPE': all of a full ford", () -> {
            FordWord f = Fords.of(Fords::full);
            f.image();
            for (int many = 0; many < 8; many++) {
                f.undo();
            }
            f.can(0, 0, 9);
            f.guard(0, 1);
            f.guard(1, 1);
            f.seed(3);
            f.ask(1, 1);
            f.restore();
            f.restore();
            FordWord due = Fords.of(Fords::full);
            due.image();
            S.isTrue("as it was", Fords.seen(f).equals(Fords.seen(due)));
        });
        S.holds(26, "the latest IMAGE alone", () -> {
            FordWord f = new FordWord();
            f.image();
            f.speaker(0, 0, 0);
            S.is("image", f.image(), 1);
            f.speaker(0, 0, 0);
            f.restore();
            S.is("SPEAKERS", f.count(0), 1);
            f.restore();
            S.is("SPEAKERS", f.count(0), 1);
        });
        S.holds(26, "nothing is changed by it", () -> {
            FordWord f = Fords.of(Fords::full);
            f.image();
            S.is("SPEAKERS", f.count(0), 6);
            S.is("UNDONE", f.count(10), 8);
            S.is("undo", f.undo(), 7);
        });
    }

    private static void p27() {
        S.holds(27, "'NONE: there is none'", () -> {
            S.refused("a new object", f -> { }, FordWord::restore, NONE);
            S.refused("a full one", Fords::full, FordWord::restore, NONE);
        });
        S.holds(27, "'All is as it was then', as often as wanted", () -> {
            FordWord f = Fords.of(Fords::crowd);
            for (int often = 0; often < 3; often++) {
                S.is("restore", f.restore(), 1);
                S.is("WAITS", f.count(6), 31);
                S.is("HOUR", f.count(4), 1);
                S.is("UNDONE", f.count(10), 1);
                S.is("THE BOOK", f.count(9), 0);
                S.is("THE DRAW", f.seed(often), 77);
                f.said(1, 1, 1);
                f.speaker(0, 0, 0);
                f.word(1);
            }
        });
        S.holds(27, "what was to be UNDONE then, may be again", () -> {
            FordWord f = Fords.of(Fords::crowd);
            f.undo();
            f.undo();
            f.undo();
            f.rest();
            f.restore();
            S.is("undo", f.undo(), 0);
            S.is("TAUGHT", f.of(2, 3), 0);
            S.is("undo", f.undo(), NONE);
        });
        S.holds(27, "THE BOOK of then: who, what PASS was, what came", () -> {
            FordWord f = Fords.told("9;p1999999,p1222222,p1555555;a");
            f.said(2, 0, 1);
            f.said(1, 0, 1);
            f.said(0, 0, 0);
            f.image();
            f.undo();
            f.undo();
            f.undo();
            f.can(1, 0, 9);
            f.can(0, 0, 0);
            f.said(1, 0, 1);
            f.said(0, 0, 1);
            f.said(2, 0, 0);
            S.is("now", f.heardWrong(1), 0);
            f.restore();
            S.is("how many", f.heardWrong(0), 2);
            S.is("260000, not 500000", f.heardWrong(1), 1);
            f.undo();
            f.undo();
            S.is("the first of all", f.heardWrong(1), 2);
        });
        S.holds(27, "TONGUES in between leave nothing of theirs", () -> {
            FordWord f = Fords.of(Fords::crowd);
            f.tongues();
            Fords.tongues(f, "1;p0111111;f");
            S.is("restore", f.restore(), 1);
            S.is("SPEAKERS", f.count(0), 5);
            S.is("WORDS", f.count(1), 3);
            S.is("EAR", f.count(2), 9);
            S.is("SOUNDS", f.worn(0, 0), 9);
            S.is("can", f.can(0, 5, 0), 8);
            S.is("UNDONE", f.count(10), 1);
        });
        S.holds(27, "SHEETS, THE TAPE are as they are", () -> {
            FordWord f = new FordWord();
            f.sheet(0, 0, 3);
            f.sheet(1, 1, 4);
            f.type('x');
            f.image();
            f.drop(0);
            f.sheet(1, 2, 5);
            f.sheet(2, 3, 6);
            f.type('y');
            f.restore();
            S.is("SHEET 0", f.drop(0), FordWord.NULL);
            S.is("SHEET 1", f.drop(1), 5);
            S.is("SHEET 2", f.drop(2), 6);
            S.is("THE TAPE", f.type('z'), 3);
        });
    }
}
