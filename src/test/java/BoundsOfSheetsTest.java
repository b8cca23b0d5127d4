/** Promises 28 to 33 (sheets): each sentence that names a boundary case. */
public final class BoundsOfSheetsTest {
    private static final int BAD = -1, NOT = -2, NONE = -4, NULL = -11, CAST = -12, INDEX = -13, SIZE = -14;
    private static final int LOW = Integer.MIN_VALUE, HIGH = Integer.MAX_VALUE;
    private static final int MILLION = 1000000;
    private static final String TWO = "9;p0987600,p1555555;a,b,c,d,e,ab";
    /** PASS of each of the two by each of the WORDS: chosen so that WHO tells every pair from every other. */
    private static final long[] FIRST = {820000, 740000, 660000, 580000, 100000, 606800};
    private static final long[] SECOND = {500000, 500000, 500000, 500000, 500000, 250000};
    private static final Sentences S = new Sentences();

    private BoundsOfSheetsTest() {
    }

    public static void main(String[] args) {
        p28();
        p28Machine();
        p28Not();
        p28First();
        p28Parts();
        p28Best();
        p29();
        p29Machine();
        p29Hours();
        p30();
        p31();
        p32();
        p32Bits();
        p33();
        p33Index();
        p33Taken();
        S.end(28, 33);
    }

    /** TWO; SHEET 0 and 3 of 16 longs, 1 of two shorts, 2 nothing. */
    private static void rows(FordWord f) {
        Fords.tongues(f, TWO);
        Fords.row(f, 0, 3, 0, 1, 1, 0, 2, 1, 3, 0, 4, 1, 5, 0, 0, 0, 1, 1);
        Fords.row(f, 1, 1, 5, 1);
        Fords.row(f, 3, 3, 5, 0, 4, 1, 3, 0, 2, 1, 1, 0, 0, 1, 1, 1, 0, 0);
    }

    /** The two items from i on of a ford of TWO: ten times the WORD, and 1 or 0; -1 if they are no such pair. */
    private static int pair(FordWord f, int sheet, int lane, int i) {
        int part = f.who(sheet, lane, i, 1, 0);
        for (int word = 0; word < 6; word++) {
            long first = FIRST[word];
            long both = first + SECOND[word];
            if (part == first * MILLION / both) {
                return word * 10 + 1;
            }
            if (part == (MILLION - first) * MILLION / (2 * MILLION - both)) {
                return word * 10;
            }
        }
        return part == NOT ? -1 : -100;
    }

    private static void lanes(String call, Sentences.CallWith with) {
        for (int lane : new int[] {-1, 4, LOW, LOW + 1, HIGH - 1, HIGH}) {
            S.refused(call + " lane " + lane, BoundsOfSheetsTest::rows, f -> with.answer(f, lane), BAD);
        }
        for (int lane : new int[] {0, 1, 2}) {
            S.refused(call + " lane " + lane, BoundsOfSheetsTest::rows, f -> with.answer(f, lane), CAST);
        }
        S.isTrue(call + " its own lane", with.answer(Fords.of(BoundsOfSheetsTest::rows), 3) >= 0);
    }

    private static void p28() {
        S.holds(28, "BAD: 'sheets 0 .. 3'", () -> S.range("sheet", BoundsOfSheetsTest::rows, 0, 3, (f, v) -> f.who(v, 3, 0, 1, 0)));
        S.holds(28, "BAD: a LANE is 0 .. 3; CAST: another", () -> lanes("who", (f, v) -> f.who(0, v, 0, 1, 0)));
        S.holds(28, "BAD: 'n WORDS (1 .. 8)'", () -> S.range("n", BoundsOfSheetsTest::rows, 1, 8, (f, v) -> f.who(0, 3, 0, v, 0)));
        S.holds(28, "BAD: there is no such SPEAKER; NONE is as told", () -> {
            S.range("speaker", BoundsOfSheetsTest::rows, 0, 1, (f, v) -> f.who(0, 3, 0, 1, v));
            for (int speaker : new int[] {-2, -3, -5}) {
                S.refused("speaker " + speaker, BoundsOfSheetsTest::rows, f -> f.who(0, 3, 0, 1, speaker), BAD);
            }
            S.is("NONE", Fords.of(BoundsOfSheetsTest::rows).who(0, 3, 0, 1, NONE), 0);
        });
        S.holds(28, "BEST GUESS: 'NONE: no SPEAKERS'", () -> {
            Fords.Build nobody = f -> {
                f.word(1);
                Fords.row(f, 0, 3, 0, 1);
            };
            S.refused("NONE", nobody, f -> f.who(0, 3, 0, 1, NONE), NONE);
            S.refused("0", nobody, f -> f.who(0, 3, 0, 1, 0), BAD);
        });
        S.holds(28, "no SPEAKERS, and the row is not as told: what is wrong with it", () -> {
            Fords.Build nobody = f -> {
                f.word(1);
                Fords.row(f, 0, 3, 1, 1);
            };
            S.refused("sheet", nobody, f -> f.who(4, 3, 0, 1, NONE), BAD);
            S.refused("n", nobody, f -> f.who(0, 3, 0, 9, NONE), BAD);
            S.refused("missing", nobody, f -> f.who(1, 3, 0, 1, NONE), NULL);
            S.refused("lane", nobody, f -> f.who(0, 2, 0, 1, NONE), CAST);
            S.refused("i", nobody, f -> f.who(0, 3, 1, 1, NONE), INDEX);
            S.refused("no such WORD", nobody, f -> f.who(0, 3, 0, 1, NONE), NOT);
        });
        S.holds(28, "one SPEAKER, six SPEAKERS", () -> {
            FordWord one = Fords.told("9;p0999999;a");
            Fords.row(one, 0, 0, 0, 1);
            S.is("one", one.who(0, 0, 0, 1, 0), MILLION);
            S.is("no other", one.who(0, 0, 0, 1, 1), BAD);
            FordWord six = Fords.told("9;p0999999,p0999999,p0999999,p0999999,p0999999,p0999999;a");
            Fords.row(six, 0, 0, 0, 1);
            S.is("the last", six.who(0, 0, 0, 1, 5), 166666);
            S.is("no other", six.who(0, 0, 0, 1, 6), BAD);
        });
    }

    private static void p28Machine() {
        S.holds(28, "NULL: the SHEET is missing, dropped", () -> {
            S.refused("missing", BoundsOfSheetsTest::rows, f -> f.who(2, 3, 0, 1, 0), NULL);
            S.refused("dropped", f -> {
                rows(f);
                f.drop(0);
            }, f -> f.who(0, 3, 0, 1, NONE), NULL);
        });
        S.holds(28, "CAST: 'taken as a row of a LANE', each by each", () -> {
            for (int lane = 0; lane < 4; lane++) {
                FordWord f = Fords.told(TWO);
                Fords.row(f, 0, lane, 5, 1);
                for (int as = 0; as < 4; as++) {
                    S.is(lane + " as " + as, f.who(0, as, 0, 1, NONE), as == lane ? 0 : CAST);
                }
            }
        });
        S.holds(28, "INDEX: 'from item i on', two items each: below 0", () -> {
            for (int i : new int[] {-1, -2, LOW, LOW + 1}) {
                S.refused("i " + i, BoundsOfSheetsTest::rows, f -> f.who(0, 3, i, 1, 0), INDEX);
                S.refused("i " + i, BoundsOfSheetsTest::rows, f -> f.who(0, 3, i, 8, NONE), INDEX);
            }
        });
        S.holds(28, "INDEX: behind the last item", () -> {
            for (int n = 1; n <= 8; n++) {
                int many = n;
                FordWord f = Fords.of(BoundsOfSheetsTest::rows);
                S.isTrue(n + " just", f.who(0, 3, 16 - 2 * n, n, 0) >= 0);
                S.refused(n + " one too far", BoundsOfSheetsTest::rows, g -> g.who(0, 3, 17 - 2 * many, many, 0), INDEX);
                S.refused(n + " at the end", BoundsOfSheetsTest::rows, g -> g.who(0, 3, 16, many, 0), INDEX);
            }
        });
        S.holds(28, "INDEX: a sum that would wrap around", () -> {
            for (int i : new int[] {HIGH, HIGH - 1, HIGH - 2, HIGH - 15, HIGH - 16}) {
                S.refused("i " + i, BoundsOfSheetsTest::rows, f -> f.who(0, 3, i, 1, 0), INDEX);
                S.refused("i " + i, BoundsOfSheetsTest::rows, f -> f.who(0, 3, i, 8, 0), INDEX);
            }
        });
        S.holds(28, "INDEX: a row of none, of one, of 24", () -> {
            FordWord f = Fords.told(TWO);
            f.sheet(0, 3, 0);
            S.is("none", f.who(0, 3, 0, 1, 0), INDEX);
            f.sheet(0, 3, 1);
            S.is("one", f.who(0, 3, 0, 1, 0), INDEX);
            f.sheet(0, 3, 2);
            S.is("two", pair(f, 0, 3, 0), 0);
            S.is("two, for two WORDS", f.who(0, 3, 0, 2, 0), INDEX);
            f.sheet(0, 3, 24);
            f.item(0, 3, 22, 5);
            S.is("the last pair", pair(f, 0, 3, 22), 50);
            S.is("behind it", f.who(0, 3, 23, 1, 0), INDEX);
        });
    }

    private static void p28Not() {
        S.holds(28, "'NOT: an item is not as told': a WORD", () -> {
            for (long word : new long[] {-1, 6, 7, Long.MIN_VALUE, Long.MAX_VALUE, 1L << 32, (1L << 32) + 1, -(1L << 32)}) {
                Fords.Build build = f -> {
                    rows(f);
                    f.item(0, 3, 0, word);
                };
                S.refused("WORD " + word, build, f -> f.who(0, 3, 0, 1, 0), NOT);
                S.refused("WORD " + word, build, f -> f.who(0, 3, 0, 1, NONE), NOT);
            }
            FordWord f = Fords.of(BoundsOfSheetsTest::rows);
            S.is("WORD 0", pair(f, 3, 3, 14), 0);
            S.is("WORD 5", pair(f, 3, 3, 0), 50);
        });
        S.holds(28, "'NOT: an item is not as told': '1 or 0'", () -> {
            for (long is : new long[] {-1, 2, Long.MIN_VALUE, Long.MAX_VALUE, 1L << 32, (1L << 32) + 1}) {
                S.refused("is " + is, f -> {
                    rows(f);
                    f.item(0, 3, 1, is);
                }, f -> f.who(0, 3, 0, 1, 0), NOT);
            }
        });
        S.holds(28, "NOT: of n WORDS the first, the last; none beside them", () -> {
            for (int n = 1; n <= 7; n++) {
                FordWord f = Fords.of(BoundsOfSheetsTest::rows);
                f.item(0, 3, 2 * n, 6);
                S.isTrue("behind " + n, f.who(0, 3, 0, n, 0) >= 0);
                S.is("the last of " + (n + 1), f.who(0, 3, 0, n + 1, 0), NOT);
                f.item(0, 3, 2 * n, 0);
                f.item(0, 3, 2 * n + 1, 2);
                S.isTrue("behind " + n, f.who(0, 3, 0, n, 0) >= 0);
                S.is("the last of " + (n + 1), f.who(0, 3, 0, n + 1, 0), NOT);
            }
            FordWord f = Fords.of(BoundsOfSheetsTest::rows);
            f.item(0, 3, 0, 9);
            f.item(0, 3, 1, 9);
            S.isTrue("ahead of them", f.who(0, 3, 2, 7, 0) >= 0);
            S.is("the first", f.who(0, 3, 0, 8, 0), NOT);
        });
        S.holds(28, "NOT: there are no WORDS", () -> {
            Fords.Build none = f -> {
                f.speaker(0, 0, 9);
                Fords.row(f, 0, 3, 0, 1);
            };
            S.refused("0", none, f -> f.who(0, 3, 0, 1, 0), NOT);
            S.refused("NONE", none, f -> f.who(0, 3, 0, 1, NONE), NOT);
        });
        S.holds(28, "an odd i is as good", () -> {
            FordWord f = Fords.told(TWO);
            Fords.row(f, 0, 3, 9, 4, 1, 9);
            S.is("1", pair(f, 0, 3, 1), 41);
            S.is("0", pair(f, 0, 3, 0), -1);
            S.is("2", pair(f, 0, 3, 2), -1);
        });
    }

    private static void p28First() {
        S.holds(28, "'of several the first': BAD; NULL; CAST; INDEX; NOT", () -> {
            Fords.Build build = f -> {
                rows(f);
                f.item(0, 3, 0, 9);
            };
            S.refused("BAD, NULL", build, f -> f.who(2, 3, 0, 9, 0), BAD);
            S.refused("BAD, NULL", build, f -> f.who(2, 4, 0, 1, 0), BAD);
            S.refused("BAD, NULL", build, f -> f.who(2, 3, 0, 1, 2), BAD);
            S.refused("BAD, CAST", build, f -> f.who(0, 2, 0, 0, 0), BAD);
            S.refused("BAD, INDEX", build, f -> f.who(0, 3, -1, 1, 2), BAD);
            S.refused("BAD, NOT", build, f -> f.who(0, 3, 0, 1, -5), BAD);
            S.refused("NULL, INDEX", build, f -> f.who(2, 0, -1, 1, 0), NULL);
            S.refused("CAST, INDEX", build, f -> f.who(0, 2, -1, 1, 0), CAST);
            S.refused("CAST, NOT", build, f -> f.who(0, 2, 0, 1, 0), CAST);
            S.refused("INDEX, NOT", build, f -> f.who(0, 3, -1, 1, 0), INDEX);
            S.refused("NOT", build, f -> f.who(0, 3, 0, 8, 0), NOT);
        });
    }

    private static void p28Parts() {
        S.holds(28, "'0 if these are 0': LIKES of all", () -> {
            FordWord f = Fords.told("9;m0999999,m1999999;a,b");
            f.guard(0, 10);
            Fords.row(f, 0, 3, 0, 1, 0, 0);
            S.is("none passes", f.who(0, 3, 0, 1, 0), 0);
            S.is("none passes", f.who(0, 3, 0, 1, 1), 0);
            S.is("passed, and not", f.who(0, 3, 0, 2, 0), 0);
            S.is("not: all", f.who(0, 3, 2, 1, 1), 500000);
            f.can(1, 0, 1);
            S.is("MUTE, whatever it can", f.who(0, 3, 0, 1, 1), 0);
        });
        S.holds(28, "LIKE of one 0, not of all; of all but one 0", () -> {
            FordWord f = Fords.told("9;m0999999,p1999999;a");
            f.guard(0, 10);
            Fords.row(f, 0, 3, 0, 1);
            S.is("never", f.who(0, 3, 0, 1, 0), 0);
            S.is("surely", f.who(0, 3, 0, 1, 1), MILLION);
        });
        S.holds(28, "LIKE a MILLION: times a MILLION does not wrap around", () -> {
            FordWord f = Fords.told("0;m0999999,m0999999,m0999999,m0999999,m0999999,m0999999;a");
            Fords.row(f, 0, 0, 0, 1, 0, 1, 0, 1, 0, 1, 0, 1, 0, 1, 0, 1, 0, 1);
            for (int s = 0; s < 6; s++) {
                S.is("a sixth, cut", f.who(0, 0, 0, 8, s), 166666);
            }
        });
        S.holds(28, "'by a MILLION, cut', for each WORD told: 8 of them", () -> {
            FordWord f = Fords.told("9;p0979909,p1555555;abcdef,a");
            Fords.row(f, 0, 2, 0, 1, 0, 1, 0, 1, 1, 1, 1, 1, 1, 1, 1, 1, 1, 1);
            // 0: 29839, 890, 26; 1: 15625, 244, 3
            S.is("one", f.who(0, 2, 0, 1, 0), 29839L * MILLION / (29839 + 15625));
            S.is("two", f.who(0, 2, 0, 2, 0), 890L * MILLION / (890 + 244));
            S.is("three", f.who(0, 2, 0, 3, 0), 26L * MILLION / (26 + 3));
            // by a: 21, 17, 13, 10, 8; 1, 0
            S.is("four", f.who(0, 2, 0, 4, 0), 21L * MILLION / (21 + 1));
            S.is("four", f.who(0, 2, 0, 4, 1), MILLION / 22);
            S.is("five", f.who(0, 2, 0, 5, 0), MILLION);
            S.is("eight", f.who(0, 2, 0, 8, 0), MILLION);
            S.is("eight", f.who(0, 2, 0, 8, 1), 0);
        });
        S.holds(28, "'(by PASS now)': HOUR, WORN, whoever WAITS or not", () -> {
            FordWord f = Fords.told("9;p0999999,p1555555;a");
            f.guard(1, 1);
            Fords.row(f, 0, 1, 0, 1);
            S.is("HOUR 0", f.who(0, 1, 0, 1, 0), 820000L * MILLION / 1320000);
            f.said(0, 0, 0);
            S.is("HOUR 1", f.who(0, 1, 0, 1, 0), 740000L * MILLION / 1240000);
        });
    }

    private static void p28Best() {
        S.holds(28, "BEST GUESS: 'of like ones the first'; of LIKES 0 too", () -> {
            FordWord f = Fords.told("9;m0999999,m0999999,p0999999,p1999999;a");
            f.guard(0, 10);
            Fords.row(f, 0, 3, 0, 1, 0, 0, 0, 1, 0, 0);
            S.is("the greater", f.who(0, 3, 0, 1, NONE), 2);
            S.is("not passed", f.who(0, 3, 2, 1, NONE), 0);
            S.is("both ways: 0 for MUTE", f.who(0, 3, 0, 2, NONE), 2);
            f.can(2, 0, 0);
            f.can(3, 0, 0);
            S.is("all 0", f.who(0, 3, 0, 1, NONE), 0);
        });
        S.holds(28, "BEST GUESS: the last of six", () -> {
            FordWord f = Fords.told("9;p0111111,p0222222,p0333333,p0444444,p0555555,p0666666;a");
            Fords.row(f, 0, 3, 0, 1, 0, 0);
            S.is("passed", f.who(0, 3, 0, 1, NONE), 5);
            S.is("not", f.who(0, 3, 2, 1, NONE), 0);
        });
        S.holds(28, "nothing is changed", () -> {
            FordWord f = Fords.of(BoundsOfSheetsTest::rows);
            f.who(0, 3, 0, 8, 0);
            f.who(0, 3, 0, 8, NONE);
            S.isTrue("seen", Fords.seen(f).equals(Fords.seen(Fords.of(BoundsOfSheetsTest::rows))));
        });
    }

    private static void p29() {
        S.holds(29, "BAD: there is no such SPEAKER", () -> S.range("speaker", BoundsOfSheetsTest::rows, 0, 1, (f, v) -> f.film(v, 0, 1, 0, 3, 0)));
        S.holds(29, "BAD: there is no such WORD", () -> S.range("word", BoundsOfSheetsTest::rows, 0, 5, (f, v) -> f.film(0, v, 1, 0, 3, 0)));
        S.holds(29, "BAD: n is 1 .. 24", () -> S.range("n", f -> {
            rows(f);
            f.sheet(0, 3, 24);
        }, 1, 24, (f, v) -> f.film(0, 0, v, 0, 3, 0)));
        S.holds(29, "BAD: 'sheets 0 .. 3'", () -> S.range("sheet", BoundsOfSheetsTest::rows, 0, 3, (f, v) -> f.film(0, 0, 1, v, 3, 0)));
        S.holds(29, "BAD: a LANE is 0 .. 3; CAST: another", () -> lanes("film", (f, v) -> f.film(0, 0, 1, 0, v, 0)));
        S.holds(29, "the answer: n", () -> {
            FordWord f = Fords.told(TWO);
            f.sheet(0, 3, 24);
            for (int n = 1; n <= 24; n++) {
                S.is("film", f.film(0, 0, n, 0, 3, 24 - n), n);
            }
        });
    }

    private static void p29Machine() {
        S.holds(29, "NULL: the SHEET is missing", () -> S.refused("film", BoundsOfSheetsTest::rows, f -> f.film(0, 0, 1, 2, 3, 0), NULL));
        S.holds(29, "INDEX: below 0, behind the last item", () -> {
            for (int n : new int[] {1, 2, 15, 16}) {
                S.is(n + " just", Fords.of(BoundsOfSheetsTest::rows).film(0, 0, n, 0, 3, 16 - n), n);
                for (int i : new int[] {-1, LOW, 17 - n, 16, 17, HIGH, HIGH - n, HIGH - n + 1, HIGH - n + 2}) {
                    S.refused(n + " from " + i, BoundsOfSheetsTest::rows, f -> f.film(0, 0, n, 0, 3, i), INDEX);
                }
            }
            S.refused("17 of 16", BoundsOfSheetsTest::rows, f -> f.film(0, 0, 17, 0, 3, 0), INDEX);
            S.refused("24 of 16", BoundsOfSheetsTest::rows, f -> f.film(0, 0, 24, 0, 3, -8), INDEX);
        });
        S.holds(29, "INDEX: a row of none", () -> S.refused("film", f -> {
            rows(f);
            f.sheet(0, 3, 0);
        }, f -> f.film(0, 0, 1, 0, 3, 0), INDEX));
        S.holds(29, "'of several the first': BAD; NULL; CAST; INDEX", () -> {
            S.refused("BAD, NULL", BoundsOfSheetsTest::rows, f -> f.film(2, 0, 1, 2, 3, 0), BAD);
            S.refused("BAD, NULL", BoundsOfSheetsTest::rows, f -> f.film(0, 6, 1, 2, 3, 0), BAD);
            S.refused("BAD, NULL", BoundsOfSheetsTest::rows, f -> f.film(0, 0, 25, 2, 3, 0), BAD);
            S.refused("BAD, NULL", BoundsOfSheetsTest::rows, f -> f.film(0, 0, 1, 2, 4, 0), BAD);
            S.refused("BAD, CAST", BoundsOfSheetsTest::rows, f -> f.film(0, 0, 0, 0, 2, 0), BAD);
            S.refused("BAD, INDEX", BoundsOfSheetsTest::rows, f -> f.film(0, 0, 25, 0, 3, 0), BAD);
            S.refused("NULL, INDEX", BoundsOfSheetsTest::rows, f -> f.film(0, 0, 1, 2, 3, -1), NULL);
            S.refused("CAST, INDEX", BoundsOfSheetsTest::rows, f -> f.film(0, 0, 1, 0, 2, -1), CAST);
        });
    }

    /** A MUTE one by one SOUND, heard by 10: PASS is 0 so long as the guard does not tire. */
    private static FordWord mute(int tires) {
        FordWord f = Fords.told("9;m0999999,p0111111;a");
        f.guard(0, 10);
        f.guard(1, tires);
        f.sheet(0, 3, 24);
        for (int i = 0; i < 24; i++) {
            f.item(0, 3, i, 9);
        }
        return f;
    }

    /** Which of two items are 0, as a pair of WORD 0 and 0: 0; else NOT. */
    private static int zeros(FordWord f, int sheet, int lane, int i) {
        return f.who(sheet, lane, i, 1, NONE) >= 0 ? 0 : NOT;
    }

    private static void p29Hours() {
        S.holds(29, "'in this HOUR and the n less 1 next ones'", () -> {
            FordWord f = mute(23);
            f.film(0, 0, 24, 0, 3, 0);
            for (int i = 0; i < 22; i++) {
                S.is("HOURS " + i, zeros(f, 0, 3, i), 0);
            }
            S.is("HOURS 22, 23", zeros(f, 0, 3, 22), NOT);
            FordWord later = mute(24);
            later.teach(1, 0);
            later.film(0, 0, 24, 0, 3, 0);
            S.is("HOURS 22, 23", zeros(later, 0, 3, 21), 0);
            S.is("HOURS 23, 24", zeros(later, 0, 3, 22), NOT);
            FordWord now = mute(1);
            now.film(0, 0, 1, 0, 3, 0);
            now.film(0, 0, 1, 0, 3, 1);
            now.film(0, 0, 2, 0, 3, 2);
            S.is("this HOUR, this HOUR", zeros(now, 0, 3, 0), 0);
            S.is("this HOUR, the next", zeros(now, 0, 3, 2), NOT);
        });
        S.holds(29, "'an item each', from i on: the items beside them stay", () -> {
            for (int i = 1; i <= 20; i++) {
                FordWord f = mute(24);
                f.film(0, 0, 3, 0, 3, i);
                S.is("ahead", zeros(f, 0, 3, i - 1), NOT);
                S.is("the first two", zeros(f, 0, 3, i), 0);
                S.is("the last two", zeros(f, 0, 3, i + 1), 0);
                S.is("behind", zeros(f, 0, 3, i + 2), NOT);
            }
        });
        S.holds(29, "an item is its lowest bits: 65536 in each LANE", () -> {
            // 80 of a hundred five times, then 20
            for (int lane = 0; lane < 4; lane++) {
                FordWord f = Fords.told("9;p0888882;abcdef");
                f.guard(0, 10);
                f.guard(1, 24);
                S.is("PASS", f.pass(0, 0, NONE), 65536);
                f.sheet(0, lane, 3);
                f.item(0, lane, 0, 7);
                f.item(0, lane, 1, 7);
                S.is("film", f.film(0, 0, 2, 0, lane, 0), 2);
                S.is("lane " + lane, zeros(f, 0, lane, 0), lane < 2 ? 0 : NOT);
            }
        });
        S.holds(29, "nothing else is changed; from the last HOUR that a run can come to", () -> {
            FordWord f = mute(24);
            f.film(0, 0, 24, 0, 3, 0);
            S.is("HOUR", f.count(4), 0);
            S.is("WORN", f.worn(0, 1), 0);
            S.is("UNDONE", f.count(10), 0);
            FordWord late = Fords.told("9;p0555555,p0555555,p0555555,p0555555,p0555555,p0555555;a");
            for (int many = 0; many < 36; many++) {
                late.teach(many / 6, many % 6);
            }
            for (int s = 0; s < 6; s++) {
                late.said(s, 0, 1);
            }
            late.sheet(0, 0, 24);
            S.is("film", late.film(5, 0, 24, 0, 0, 0), 24);
        });
    }

    private static void p30() {
        S.holds(30, "BAD: 'sheets 0 .. 3'", () -> S.range("sheet", BoundsOfSheetsTest::rows, 0, 3, (f, v) -> f.sheet(v, 0, 1)));
        S.holds(30, "BAD: a LANE is 0 .. 3", () -> S.range("lane", BoundsOfSheetsTest::rows, 0, 3, (f, v) -> f.sheet(0, v, 1)));
        S.holds(30, "'BAD: also n above 24'; 0 to 24 items", () -> {
            for (int n = 0; n <= 24; n++) {
                FordWord f = Fords.of(BoundsOfSheetsTest::rows);
                S.is("sheet", f.sheet(0, 2, n), n);
                S.is("its items", f.drop(0), n);
            }
            for (int n : new int[] {25, 26, HIGH - 1, HIGH}) {
                S.refused("n " + n, BoundsOfSheetsTest::rows, f -> f.sheet(0, 2, n), BAD);
            }
        });
        S.holds(30, "'SIZE: n below 0'", () -> {
            for (int n : new int[] {-1, -2, NONE, LOW, LOW + 1}) {
                S.refused("n " + n, BoundsOfSheetsTest::rows, f -> f.sheet(0, 2, n), SIZE);
                S.refused("n " + n, BoundsOfSheetsTest::rows, f -> f.sheet(2, 2, n), SIZE);
            }
        });
        S.holds(30, "'of several the first': BAD; SIZE", () -> {
            S.refused("sheet", BoundsOfSheetsTest::rows, f -> f.sheet(4, 0, -1), BAD);
            S.refused("sheet", BoundsOfSheetsTest::rows, f -> f.sheet(-1, 0, LOW), BAD);
            S.refused("lane", BoundsOfSheetsTest::rows, f -> f.sheet(0, 4, -1), BAD);
            S.refused("lane", BoundsOfSheetsTest::rows, f -> f.sheet(0, -1, -1), BAD);
        });
        S.holds(30, "'a new row': all 0, in place of an old one, shorter, longer, of another LANE", () -> {
            FordWord f = Fords.told(TWO);
            for (int lane = 0; lane < 4; lane++) {
                f.sheet(0, lane, 24);
                for (int i = 0; i < 24; i++) {
                    f.item(0, lane, i, 1);
                }
                S.is("shorter", f.sheet(0, lane, 2), 2);
                S.is("shorter", pair(f, 0, lane, 0), 0);
                S.is("behind it", f.who(0, lane, 1, 1, 0), INDEX);
                S.is("longer", f.sheet(0, lane, 24), 24);
                for (int i = 0; i < 24; i += 2) {
                    S.is("longer", pair(f, 0, lane, i), 0);
                }
            }
            f.item(0, 3, 0, 1);
            S.is("of another LANE", f.sheet(0, 0, 2), 2);
            S.is("of another LANE", pair(f, 0, 0, 0), 0);
        });
        S.holds(30, "of the SHEET alone", () -> {
            FordWord f = Fords.of(BoundsOfSheetsTest::rows);
            f.sheet(2, 3, 4);
            S.is("SHEET 0", f.drop(0), 16);
            S.is("SHEET 1", f.drop(1), 2);
            S.is("SHEET 3", f.drop(3), 16);
            S.is("SHEET 2", f.drop(2), 4);
        });
    }

    private static void p31() {
        S.holds(31, "BAD: 'sheets 0 .. 3'", () -> S.range("sheet", BoundsOfSheetsTest::rows, 0, 3, (f, v) -> f.drop(v)));
        S.holds(31, "NULL: it holds nothing, at first, dropped", () -> {
            S.refused("at first", BoundsOfSheetsTest::rows, f -> f.drop(2), NULL);
            S.refused("dropped", f -> {
                rows(f);
                f.drop(0);
            }, f -> f.drop(0), NULL);
        });
        S.holds(31, "'how many items it had': 0, 24", () -> {
            FordWord f = new FordWord();
            for (int lane = 0; lane < 4; lane++) {
                f.sheet(lane, lane, 0);
                S.is("none", f.drop(lane), 0);
                f.sheet(lane, lane, 24);
                S.is("all", f.drop(lane), 24);
                S.is("nothing", f.drop(lane), NULL);
            }
        });
        S.holds(31, "dropped: NULL in every call; the others stay", () -> {
            FordWord f = Fords.of(BoundsOfSheetsTest::rows);
            f.drop(0);
            S.is("item", f.item(0, 3, 0, 0), NULL);
            S.is("who", f.who(0, 3, 0, 1, 0), NULL);
            S.is("film", f.film(0, 0, 1, 0, 3, 0), NULL);
            S.is("copy", f.copy(0, 0, 3, 0, 1), NULL);
            S.is("copy", f.copy(3, 0, 0, 0, 1), NULL);
            S.is("another", pair(f, 3, 3, 0), 50);
        });
    }

    private static void p32() {
        S.holds(32, "BAD: 'sheets 0 .. 3'", () -> S.range("sheet", BoundsOfSheetsTest::rows, 0, 3, (f, v) -> f.item(v, 3, 0, 1)));
        S.holds(32, "BAD: a LANE is 0 .. 3; CAST: another", () -> lanes("item", (f, v) -> f.item(0, v, 0, 1)));
        S.holds(32, "NULL", () -> S.refused("item", BoundsOfSheetsTest::rows, f -> f.item(2, 3, 0, 1), NULL));
        S.holds(32, "INDEX: below 0, behind the last item", () -> {
            S.is("the first", Fords.of(BoundsOfSheetsTest::rows).item(0, 3, 0, 1), 1);
            S.is("the last", Fords.of(BoundsOfSheetsTest::rows).item(0, 3, 15, 1), 1);
            for (int i : new int[] {-1, 16, 17, 24, LOW, LOW + 1, HIGH - 1, HIGH}) {
                S.refused("i " + i, BoundsOfSheetsTest::rows, f -> f.item(0, 3, i, 1), INDEX);
            }
        });
        S.holds(32, "INDEX: a row of none, of 24", () -> {
            FordWord f = new FordWord();
            f.sheet(0, 0, 0);
            S.is("none", f.item(0, 0, 0, 1), INDEX);
            f.sheet(0, 0, 24);
            S.is("the last", f.item(0, 0, 23, 1), 1);
            S.is("behind it", f.item(0, 0, 24, 1), INDEX);
        });
        S.holds(32, "'of several the first': BAD; NULL; CAST; INDEX", () -> {
            S.refused("BAD, NULL", BoundsOfSheetsTest::rows, f -> f.item(2, 4, 0, 1), BAD);
            S.refused("BAD, INDEX", BoundsOfSheetsTest::rows, f -> f.item(0, -1, -1, 1), BAD);
            S.refused("NULL, INDEX", BoundsOfSheetsTest::rows, f -> f.item(2, 3, -1, 1), NULL);
            S.refused("CAST, INDEX", BoundsOfSheetsTest::rows, f -> f.item(0, 2, 16, 1), CAST);
        });
        S.holds(32, "Item i and no other", () -> {
            FordWord f = Fords.of(BoundsOfSheetsTest::rows);
            f.item(0, 3, 2, 5);
            S.is("ahead", pair(f, 0, 3, 0), 1);
            S.is("it", pair(f, 0, 3, 2), 50);
            S.is("behind", pair(f, 0, 3, 4), 21);
            S.is("of another SHEET", pair(f, 3, 3, 2), 41);
        });
    }

    private static void p32Bits() {
        S.holds(32, "'becomes v, its lowest bits': 8, 16, 32, 64 of them", () -> {
            for (int lane = 0; lane < 4; lane++) {
                int bits = 8 << lane;
                FordWord f = Fords.told(TWO);
                f.sheet(0, lane, 2);
                S.is("item", f.item(0, lane, 1, 1), 1);
                for (int bit = 3; bit < 64; bit++) {
                    f.item(0, lane, 0, (1L << bit) + 5);
                    S.is("lane " + lane + ", bit " + bit, pair(f, 0, lane, 0), bit < bits ? -1 : 51);
                }
            }
        });
        S.holds(32, "numbers at the ends of long", () -> {
            for (int lane = 0; lane < 4; lane++) {
                FordWord f = Fords.told(TWO);
                f.sheet(0, lane, 2);
                S.is("the least", f.item(0, lane, 0, Long.MIN_VALUE), 1);
                S.is("the least", pair(f, 0, lane, 0), lane < 3 ? 0 : -1);
                S.is("the least and 1", f.item(0, lane, 0, Long.MIN_VALUE + 1), 1);
                S.is("the least and 1", pair(f, 0, lane, 0), lane < 3 ? 10 : -1);
                S.is("the greatest", f.item(0, lane, 0, Long.MAX_VALUE), 1);
                S.is("the greatest is -1", pair(f, 0, lane, 0), -1);
                S.is("-1", f.item(0, lane, 0, -1), 1);
                S.is("-1", pair(f, 0, lane, 0), -1);
            }
        });
        S.holds(32, "the highest of the lowest bits makes it less than 0", () -> {
            for (int lane = 0; lane < 4; lane++) {
                FordWord f = Fords.told(TWO);
                f.sheet(0, lane, 2);
                f.item(0, lane, 0, (1L << (8 << lane) - 1) + 1);
                S.is("lane " + lane, pair(f, 0, lane, 0), -1);
            }
        });
    }

    private static void p33() {
        S.holds(33, "BAD: 'sheets 0 .. 3', from", () -> S.range("from", BoundsOfSheetsTest::rows, 0, 3, (f, v) -> f.copy(v, 0, 3, 0, 1)));
        S.holds(33, "BAD: 'sheets 0 .. 3', to", () -> S.range("to", BoundsOfSheetsTest::rows, 0, 3, (f, v) -> f.copy(0, 0, v, 0, 1)));
        S.holds(33, "'NULL (either)'", () -> {
            S.refused("from", BoundsOfSheetsTest::rows, f -> f.copy(2, 0, 0, 0, 1), NULL);
            S.refused("to", BoundsOfSheetsTest::rows, f -> f.copy(0, 0, 2, 0, 1), NULL);
            S.refused("both", BoundsOfSheetsTest::rows, f -> f.copy(2, 0, 2, 0, 0), NULL);
        });
        S.holds(33, "'CAST: of unlike LANES', each by each, none copied too", () -> {
            FordWord f = new FordWord();
            for (int from = 0; from < 4; from++) {
                f.sheet(from, from, 3);
            }
            for (int from = 0; from < 4; from++) {
                for (int to = 0; to < 4; to++) {
                    S.is(from + " to " + to, f.copy(from, 0, to, 0, 3), from == to ? 3 : CAST);
                    S.is(from + " to " + to + ", none", f.copy(from, 0, to, 0, 0), from == to ? 0 : CAST);
                }
            }
        });
        S.holds(33, "'of several the first': BAD; NULL; CAST; INDEX", () -> {
            S.refused("BAD, NULL", BoundsOfSheetsTest::rows, f -> f.copy(2, 0, 4, 0, 1), BAD);
            S.refused("BAD, NULL", BoundsOfSheetsTest::rows, f -> f.copy(-1, 0, 2, 0, 1), BAD);
            S.refused("BAD, INDEX", BoundsOfSheetsTest::rows, f -> f.copy(0, -1, 4, 0, 1), BAD);
            S.refused("NULL, INDEX", BoundsOfSheetsTest::rows, f -> f.copy(0, -1, 2, 0, 1), NULL);
            S.refused("NULL, INDEX", BoundsOfSheetsTest::rows, f -> f.copy(2, 0, 0, 0, -1), NULL);
            S.refused("CAST, INDEX", BoundsOfSheetsTest::rows, f -> f.copy(0, 0, 1, 0, -1), CAST);
            S.refused("CAST, INDEX", BoundsOfSheetsTest::rows, f -> f.copy(1, 3, 0, 0, 1), CAST);
        });
    }

    private static void p33Index() {
        S.holds(33, "INDEX: below 0", () -> {
            for (int below : new int[] {-1, -2, LOW, LOW + 1}) {
                S.refused("i", BoundsOfSheetsTest::rows, f -> f.copy(0, below, 3, 0, 1), INDEX);
                S.refused("j", BoundsOfSheetsTest::rows, f -> f.copy(0, 0, 3, below, 1), INDEX);
                S.refused("n", BoundsOfSheetsTest::rows, f -> f.copy(0, 0, 3, 0, below), INDEX);
                S.refused("i, none", BoundsOfSheetsTest::rows, f -> f.copy(0, below, 3, 0, 0), INDEX);
                S.refused("j, none", BoundsOfSheetsTest::rows, f -> f.copy(0, 0, 3, below, 0), INDEX);
                S.refused("the same", BoundsOfSheetsTest::rows, f -> f.copy(0, 0, 0, 0, below), INDEX);
            }
        });
        S.holds(33, "INDEX: behind the last item of either, also where the other is longer", () -> {
            Fords.Build build = f -> {
                rows(f);
                f.sheet(2, 3, 4);
            };
            S.is("all of the shorter", Fords.of(build).copy(2, 0, 0, 12, 4), 4);
            S.is("to all of the shorter", Fords.of(build).copy(0, 12, 2, 0, 4), 4);
            S.refused("from, one too far", build, f -> f.copy(0, 13, 2, 0, 4), INDEX);
            S.refused("to, one too far", build, f -> f.copy(0, 0, 2, 1, 4), INDEX);
            S.refused("to, one too many", build, f -> f.copy(0, 0, 2, 0, 5), INDEX);
            S.refused("from, one too many", build, f -> f.copy(2, 0, 0, 0, 5), INDEX);
            S.refused("from, one too far", build, f -> f.copy(2, 1, 0, 0, 4), INDEX);
            S.refused("to, one too far", build, f -> f.copy(2, 0, 0, 13, 4), INDEX);
            S.refused("more than there are", build, f -> f.copy(0, 0, 0, 0, 17), INDEX);
        });
        S.holds(33, "n 0: up to behind the last item, no farther", () -> {
            FordWord f = Fords.of(BoundsOfSheetsTest::rows);
            S.is("none", f.copy(0, 0, 3, 0, 0), 0);
            S.is("at the end", f.copy(0, 16, 3, 16, 0), 0);
            S.refused("i", BoundsOfSheetsTest::rows, g -> g.copy(0, 17, 3, 0, 0), INDEX);
            S.refused("j", BoundsOfSheetsTest::rows, g -> g.copy(0, 0, 3, 17, 0), INDEX);
            S.refused("i", BoundsOfSheetsTest::rows, g -> g.copy(0, HIGH, 3, 0, 0), INDEX);
            S.refused("j", BoundsOfSheetsTest::rows, g -> g.copy(0, 0, 3, HIGH, 0), INDEX);
        });
        S.holds(33, "INDEX: a sum that would wrap around", () -> {
            for (int far : new int[] {HIGH, HIGH - 1, HIGH - 15, HIGH - 16}) {
                S.refused("i", BoundsOfSheetsTest::rows, f -> f.copy(0, far, 3, 0, 16), INDEX);
                S.refused("j", BoundsOfSheetsTest::rows, f -> f.copy(0, 0, 3, far, 16), INDEX);
                S.refused("n", BoundsOfSheetsTest::rows, f -> f.copy(0, 1, 3, 1, far), INDEX);
                S.refused("n", BoundsOfSheetsTest::rows, f -> f.copy(0, 16, 3, 16, far), INDEX);
                S.refused("all", BoundsOfSheetsTest::rows, f -> f.copy(0, far, 3, far, far), INDEX);
            }
        });
        S.holds(33, "INDEX: rows of none, of 24", () -> {
            FordWord f = new FordWord();
            f.sheet(0, 0, 0);
            S.is("none of none", f.copy(0, 0, 0, 0, 0), 0);
            S.is("one of none", f.copy(0, 0, 0, 0, 1), INDEX);
            S.is("behind it", f.copy(0, 1, 0, 0, 0), INDEX);
            f.sheet(0, 0, 24);
            f.sheet(1, 0, 24);
            S.is("all", f.copy(0, 0, 1, 0, 24), 24);
            S.is("one more", f.copy(0, 0, 1, 0, 25), INDEX);
        });
    }

    private static void pairs(String what, FordWord f, int sheet, int... want) {
        for (int k = 0; k < want.length; k++) {
            S.is(what + ", pair " + k, pair(f, sheet, 3, 2 * k), want[k]);
        }
    }

    private static void p33Taken() {
        S.holds(33, "all of it, a part of it: the items beside stay, as does the first SHEET", () -> {
            FordWord f = Fords.of(BoundsOfSheetsTest::rows);
            S.is("a part", f.copy(0, 2, 3, 4, 6), 6);
            pairs("to", f, 3, 50, 41, 10, 21, 30, 1, 11, 0);
            pairs("from", f, 0, 1, 10, 21, 30, 41, 50, 0, 11);
            S.is("all", f.copy(0, 0, 3, 0, 16), 16);
            pairs("to", f, 3, 1, 10, 21, 30, 41, 50, 0, 11);
            S.is("none", f.copy(3, 0, 0, 2, 0), 0);
            pairs("none", f, 0, 1, 10, 21, 30, 41, 50, 0, 11);
        });
        S.holds(33, "'(or the same) .. as if all were taken ahead'", () -> {
            FordWord up = Fords.of(BoundsOfSheetsTest::rows);
            S.is("up", up.copy(0, 0, 0, 2, 14), 14);
            pairs("up", up, 0, 1, 1, 10, 21, 30, 41, 50, 0);
            FordWord down = Fords.of(BoundsOfSheetsTest::rows);
            S.is("down", down.copy(0, 2, 0, 0, 14), 14);
            pairs("down", down, 0, 10, 21, 30, 41, 50, 0, 11, 11);
            FordWord still = Fords.of(BoundsOfSheetsTest::rows);
            S.is("onto itself", still.copy(0, 0, 0, 0, 16), 16);
            pairs("onto itself", still, 0, 1, 10, 21, 30, 41, 50, 0, 11);
        });
        S.holds(33, "items are whole: numbers at the ends of each LANE stay what they are", () -> {
            for (int lane = 0; lane < 4; lane++) {
                FordWord f = Fords.told(TWO);
                Fords.row(f, 0, lane, -1, 1, 5, 1);
                f.sheet(1, lane, 4);
                f.copy(0, 0, 1, 0, 4);
                S.is("-1", pair(f, 1, lane, 0), -1);
                S.is("5", pair(f, 1, lane, 2), 51);
            }
        });
        S.holds(33, "what came is its own: the first SHEET may be changed, dropped", () -> {
            FordWord f = Fords.of(BoundsOfSheetsTest::rows);
            f.copy(0, 0, 3, 0, 16);
            f.item(0, 3, 0, 5);
            S.is("changed", pair(f, 3, 3, 0), 1);
            f.drop(0);
            S.is("dropped", pair(f, 3, 3, 2), 10);
            f.sheet(0, 3, 16);
            S.is("a new row", pair(f, 3, 3, 4), 21);
        });
    }
}
