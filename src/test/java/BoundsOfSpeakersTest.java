/** Promises 1 to 11 (speakers, words): each sentence that names a boundary case. */
public final class BoundsOfSpeakersTest {
    private static final int BAD = -1, FULL = -3, NONE = -4, NULL = -11;
    private static final int LOW = Integer.MIN_VALUE, HIGH = Integer.MAX_VALUE;
    private static final Sentences S = new Sentences();

    private BoundsOfSpeakersTest() {
    }

    public static void main(String[] args) {
        p1();
        p2();
        p3();
        p4();
        p5();
        p6();
        p7();
        p7Kinds();
        p8();
        p9();
        p9Speakers();
        p9Words();
        p9Faults();
        p10();
        p10Hears();
        p11();
        S.end(1, 11);
    }

    private static void p1() {
        S.holds(1, "'A ford, nobody.'", () -> {
            FordWord f = new FordWord();
            S.is("SPEAKERS", f.count(0), 0);
            S.is("who WAITS", f.count(6), 0);
            S.is("OVER", f.count(7), 0);
            S.is("DEAD", f.count(8), 0);
        });
        S.holds(1, "WORDS: none", () -> S.is("WORDS", new FordWord().count(1), 0));
        S.holds(1, "'EAR is 0 .. 10 (9 at first)'", () -> {
            S.is("EAR", new FordWord().count(2), 9);
            S.is("HEARS", new FordWord().count(5), 9);
        });
        S.holds(1, "'TIRES 1 .. 24 (4 at first)'", () -> S.is("TIRES", new FordWord().count(3), 4));
        S.holds(1, "'it is HOUR 0 at first'", () -> S.is("HOUR", new FordWord().count(4), 0));
        S.holds(1, "THE BOOK is empty", () -> {
            S.is("entries", new FordWord().count(9), 0);
            S.is("HEARD WRONG", new FordWord().heardWrong(0), 0);
        });
        S.holds(1, "nothing is to be UNDONE", () -> {
            S.is("count", new FordWord().count(10), 0);
            S.is("undo", new FordWord().undo(), NONE);
        });
        S.holds(1, "'THE DRAW is a number of 31 bits (1 at first)'", () -> S.is("seed", new FordWord().seed(9), 1));
        S.holds(1, "THE TAPE is empty", () -> {
            S.is("tongues", new FordWord().tongues(), -20);
            S.is("type", new FordWord().type('9'), 1);
        });
        S.holds(1, "there is no IMAGE", () -> S.is("restore", new FordWord().restore(), NONE));
        S.holds(1, "'sheets 0 .. 3: nothing (at first)'", () -> {
            for (int sheet = 0; sheet < 4; sheet++) {
                S.is("drop " + sheet, new FordWord().drop(sheet), NULL);
            }
        });
        S.holds(1, "nobody: SPEAKER 0 is BAD in every call", BoundsOfSpeakersTest::p1Nobody);
        S.holds(1, "no WORDS: WORD 0 is BAD in every call", BoundsOfSpeakersTest::p1NoWords);
        S.holds(1, "a new object, whatever another one was told", () -> {
            Fords.of(Fords::crowd);
            Fords.of(Fords::full);
            S.is("SPEAKERS", new FordWord().count(0), 0);
            S.is("SHEETS", new FordWord().drop(0), NULL);
            S.is("THE TAPE", new FordWord().type('x'), 1);
            S.is("THE DRAW", new FordWord().seed(0), 1);
            S.is("IMAGE", new FordWord().restore(), NONE);
        });
    }

    private static void p1Nobody() {
        Fords.Build words = f -> {
            f.word(1);
            Fords.row(f, 0, 3, 0, 1);
        };
        S.refused("can", words, f -> f.can(0, 0, 0), BAD);
        S.refused("of", words, f -> f.of(0, 0), BAD);
        S.refused("skill", words, f -> f.skill(0, 0, 0), BAD);
        S.refused("ask", words, f -> f.ask(0, 0), BAD);
        S.refused("said", words, f -> f.said(0, 0, 0), BAD);
        S.refused("teach", words, f -> f.teach(0, 0), BAD);
        S.refused("pass", words, f -> f.pass(0, 0, NONE), BAD);
        S.refused("learn", words, f -> f.learn(0, 0, 0, 0), BAD);
        S.refused("cross", words, f -> f.cross(0, 0, 0), BAD);
        S.refused("who", words, f -> f.who(0, 3, 0, 1, 0), BAD);
        S.refused("film", words, f -> f.film(0, 0, 1, 0, 3, 0), BAD);
    }

    private static void p1NoWords() {
        Fords.Build one = f -> {
            f.speaker(0, 0, 9);
            Fords.row(f, 0, 3, 0, 1);
        };
        S.refused("skill", one, f -> f.skill(0, 0, 0), BAD);
        S.refused("worn", one, f -> f.worn(0, 0), BAD);
        S.refused("ask", one, f -> f.ask(0, 0), BAD);
        S.refused("said", one, f -> f.said(0, 0, 0), BAD);
        S.refused("pass", one, f -> f.pass(0, 0, NONE), BAD);
        S.refused("wrongs", one, f -> f.wrongs(0), BAD);
        S.refused("learn", one, f -> f.learn(0, 0, 0, 0), BAD);
        S.refused("cross", one, f -> f.cross(0, 0, 0), BAD);
        S.refused("line", one, f -> f.line(0, -1), BAD);
        S.refused("film", one, f -> f.film(0, 0, 1, 0, 3, 0), BAD);
    }

    private static void p2() {
        S.holds(2, "BAD: KINDS are 0 .. 4", () -> S.range("kind", Fords::crowd, 0, 4, (f, v) -> f.speaker(v, 0, 5)));
        S.holds(2, "BAD: a BANK is 0 or 1", () -> S.range("bank", Fords::crowd, 0, 1, (f, v) -> f.speaker(0, v, 5)));
        S.holds(2, "BAD: one can a SOUND by 0 .. 9", () -> S.range("v", Fords::crowd, 0, 9, (f, v) -> f.speaker(0, 0, v)));
        S.holds(2, "'SPEAKERS 0 .. 5, as they come': the number; 'FULL: 6'", () -> {
            FordWord f = new FordWord();
            for (int s = 0; s < 6; s++) {
                S.is("speaker", f.speaker(0, 0, 0), s);
                S.is("how many", f.count(0), s + 1);
            }
            S.is("a seventh", f.speaker(0, 0, 0), FULL);
        });
        S.holds(2, "FULL changes nothing", () -> S.refused("a seventh", Fords::full, f -> f.speaker(0, 0, 9), FULL));
        S.holds(2, "'of several the first': BAD; FULL", () -> {
            S.refused("kind", Fords::full, f -> f.speaker(5, 0, 0), BAD);
            S.refused("bank", Fords::full, f -> f.speaker(0, 2, 0), BAD);
            S.refused("v", Fords::full, f -> f.speaker(0, 0, 10), BAD);
        });
        S.holds(2, "'who can each SOUND by v', the least and the most", () -> {
            for (int v : new int[] {0, 9}) {
                FordWord f = new FordWord();
                f.speaker(0, 1, v);
                for (int sound = 0; sound < 6; sound++) {
                    S.is("can " + sound, f.can(0, sound, 4), v);
                }
            }
        });
        S.holds(2, "'each WAITS (0, at first)', 'TAUGHT some SOUNDS (none at first)'", () -> {
            FordWord f = Fords.of(Fords::crowd);
            f.teach(4, 2);
            f.said(4, 0, 0);
            S.is("number", f.speaker(4, 1, 2), 5);
            S.is("KIND", f.of(5, 0), 4);
            S.is("BANK", f.of(5, 1), 1);
            S.is("WAITS", f.of(5, 2), 0);
            S.is("TAUGHT", f.of(5, 3), 0);
        });
        S.holds(2, "in the place of one that an IMAGE took back: WAITS, TAUGHT nothing", () -> {
            FordWord f = Fords.told("9;p0111111;a");
            f.image();
            f.speaker(0, 0, 9);
            f.teach(1, 3);
            f.said(1, 0, 1);
            f.restore();
            S.is("number", f.speaker(2, 1, 0), 1);
            S.is("WAITS", f.of(1, 2), 0);
            S.is("TAUGHT", f.of(1, 3), 0);
        });
        S.holds(2, "'a new SPEAKER .. leave nothing to be UNDONE'", () -> {
            FordWord f = Fords.of(Fords::crowd);
            S.is("ahead", f.count(10), 3);
            f.speaker(0, 0, 0);
            S.is("count", f.count(10), 0);
            S.is("undo", f.undo(), NONE);
            S.is("OVER still", f.count(7), 1);
        });
    }

    private static void p3() {
        S.holds(3, "BAD: there is no such SPEAKER", () -> S.range("speaker", Fords::crowd, 0, 4, (f, v) -> f.can(v, 0, 5)));
        S.holds(3, "BAD: 'SOUNDS are 0 .. 5'", () -> S.range("sound", Fords::crowd, 0, 5, (f, v) -> f.can(1, v, 5)));
        S.holds(3, "BAD: one can a SOUND by 0 .. 9", () -> S.range("v", Fords::crowd, 0, 9, (f, v) -> f.can(1, 5, v)));
        S.holds(3, "'becomes v: what it was', at both ends", () -> {
            FordWord f = Fords.told("9;p0505050;a");
            S.is("to 9", f.can(0, 0, 9), 5);
            S.is("to 0", f.can(0, 0, 0), 9);
            S.is("to 0 again", f.can(0, 0, 0), 0);
            S.is("the last SOUND", f.can(0, 5, 1), 0);
            S.is("the last SOUND", f.can(0, 5, 1), 1);
        });
        S.holds(3, "of a SOUND of a SPEAKER, and of no other", () -> {
            FordWord f = Fords.told("9;p0123456,p0123456,p0123456;a");
            f.can(1, 0, 9);
            f.can(1, 5, 9);
            int[] now = {9, 2, 3, 4, 5, 9};
            for (int sound = 0; sound < 6; sound++) {
                S.is("ahead of it", f.skill(0, 0, sound), sound + 1);
                S.is("it", f.skill(1, 0, sound), now[sound]);
                S.is("behind it", f.skill(2, 0, sound), sound + 1);
            }
        });
        S.holds(3, "refused by BAD alone: one who is OVER or DEAD too", () -> {
            FordWord f = Fords.told("9;p0111111,p0111111;a");
            f.said(0, 0, 1);
            f.said(1, 0, 0);
            S.is("OVER", f.can(0, 0, 2), 1);
            S.is("DEAD", f.can(1, 0, 2), 1);
            S.is("may be UNDONE still", f.count(10), 2);
        });
    }

    private static void p4() {
        S.holds(4, "BAD: 'sets of SOUNDS (1 .. 63)'", () -> S.range("sounds", Fords::crowd, 1, 63, (f, v) -> f.word(v)));
        S.holds(4, "BAD: a SOUND beyond 5 beside good ones", () -> {
            S.refused("65", Fords::crowd, f -> f.word(65), BAD);
            S.refused("-64", Fords::crowd, f -> f.word(-64), BAD);
            S.refused("2 to the 31 and 1", Fords::crowd, f -> f.word(LOW + 1), BAD);
        });
        S.holds(4, "'WORDS 0 .. 5, as they come': its number; 'FULL: 6'", () -> {
            FordWord f = new FordWord();
            for (int word = 0; word < 6; word++) {
                S.is("word", f.word(63 - word), word);
                S.is("how many", f.count(1), word + 1);
            }
            S.is("a seventh", f.word(1), FULL);
            for (int word = 0; word < 6; word++) {
                S.is("its SOUNDS", f.worn(word, 0), 63 - word);
            }
        });
        S.holds(4, "FULL changes nothing", () -> S.refused("a seventh", Fords::full, f -> f.word(1), FULL));
        S.holds(4, "'of several the first': BAD; FULL", () -> {
            S.refused("0", Fords::full, f -> f.word(0), BAD);
            S.refused("64", Fords::full, f -> f.word(64), BAD);
        });
        S.holds(4, "'WORN by how often it was asked (0 at first)'", () -> {
            FordWord f = Fords.of(Fords::crowd);
            S.is("number", f.word(1), 3);
            S.is("WORN", f.worn(3, 1), 0);
        });
        S.holds(4, "in the place of one that an IMAGE took back: not WORN", () -> {
            FordWord f = Fords.told("9;p0111111;a");
            f.image();
            f.word(2);
            f.said(0, 1, 1);
            f.restore();
            S.is("number", f.word(4), 1);
            S.is("WORN", f.worn(1, 1), 0);
        });
        S.holds(4, "'a new .. WORD leave nothing to be UNDONE'", () -> {
            FordWord f = Fords.of(Fords::crowd);
            f.word(7);
            S.is("count", f.count(10), 0);
            S.is("undo", f.undo(), NONE);
            S.is("WORN still", f.worn(0, 1), 1);
        });
        S.holds(4, "a WORD that was there already is one more", () -> {
            FordWord f = Fords.told("9;p0111111;a");
            S.is("number", f.word(1), 1);
        });
    }

    private static void p5() {
        S.holds(5, "BAD: what is 0 or 1", () -> S.range("what", Fords::crowd, 0, 1, (f, v) -> f.guard(v, 5)));
        S.holds(5, "BAD: 'EAR is 0 .. 10'", () -> S.range("EAR", Fords::crowd, 0, 10, (f, v) -> f.guard(0, v)));
        S.holds(5, "BAD: 'TIRES 1 .. 24'", () -> S.range("TIRES", Fords::crowd, 1, 24, (f, v) -> f.guard(1, v)));
        S.holds(5, "BAD: what is good for the one is not for the other", () -> {
            S.refused("TIRES 0", Fords::crowd, f -> f.guard(1, 0), BAD);
            S.refused("EAR 24", Fords::crowd, f -> f.guard(0, 24), BAD);
        });
        S.holds(5, "'becomes v: what it was', at both ends", () -> {
            FordWord f = new FordWord();
            S.is("EAR", f.guard(0, 10), 9);
            S.is("EAR", f.guard(0, 0), 10);
            S.is("EAR", f.guard(0, 0), 0);
            S.is("TIRES", f.guard(1, 24), 4);
            S.is("TIRES", f.guard(1, 1), 24);
            S.is("TIRES", f.guard(1, 1), 1);
            S.is("EAR", f.count(2), 0);
            S.is("TIRES", f.count(3), 1);
        });
        S.holds(5, "HOUR stays, what may be UNDONE stays", () -> {
            FordWord f = Fords.told("9;p0111111;a");
            f.teach(0, 0);
            f.guard(0, 2);
            f.guard(1, 2);
            S.is("HOUR", f.count(4), 1);
            S.is("UNDONE", f.count(10), 1);
        });
    }

    private static void p6() {
        S.holds(6, "BAD: there is no such SPEAKER", () -> S.range("speaker", Fords::crowd, 0, 4, (f, v) -> f.of(v, 0)));
        S.holds(6, "BAD: what is 0 .. 3", () -> S.range("what", Fords::crowd, 0, 3, (f, v) -> f.of(1, v)));
        S.holds(6, "all six SPEAKERS", () -> S.range("speaker", Fords::full, 0, 5, (f, v) -> f.of(v, 0)));
        S.holds(6, "KIND 0 .. 4, BANK 0, 1", () -> {
            FordWord f = Fords.told("9;p0111111,c1111111,t0111111,m1111111,h0111111;a");
            for (int s = 0; s < 5; s++) {
                S.is("KIND", f.of(s, 0), s);
                S.is("BANK", f.of(s, 1), s % 2);
            }
        });
        S.holds(6, "'each WAITS (0, at first), is OVER (1) or DEAD (2)'", () -> {
            FordWord f = Fords.told("9;p0111111,p0111111,p0111111;a");
            f.said(1, 0, 1);
            f.said(2, 0, 0);
            S.is("WAITS", f.of(0, 2), 0);
            S.is("OVER", f.of(1, 2), 1);
            S.is("DEAD", f.of(2, 2), 2);
        });
        S.holds(6, "SOUNDS it was TAUGHT: none, the first, the last, all", () -> {
            FordWord f = Fords.told("9;p0111111;a");
            S.is("none", f.of(0, 3), 0);
            f.teach(0, 0);
            S.is("the first", f.of(0, 3), 1);
            f.teach(0, 5);
            S.is("the last", f.of(0, 3), 33);
            for (int sound = 1; sound < 5; sound++) {
                f.teach(0, sound);
            }
            S.is("all", f.of(0, 3), 63);
        });
    }

    private static void p7() {
        S.holds(7, "BAD: there is no such SPEAKER", () -> S.range("speaker", Fords::crowd, 0, 4, (f, v) -> f.skill(v, 0, 0)));
        S.holds(7, "BAD: there is no such WORD", () -> S.range("word", Fords::crowd, 0, 2, (f, v) -> f.skill(1, v, 0)));
        S.holds(7, "BAD: 'SOUNDS are 0 .. 5'", () -> S.range("sound", Fords::crowd, 0, 5, (f, v) -> f.skill(1, 0, v)));
        S.holds(7, "'(whether that SOUND is in it or not)'", () -> {
            FordWord f = Fords.told("9;p0123456;c,abdef");
            for (int sound = 0; sound < 6; sound++) {
                S.is("by c", f.skill(0, 0, sound), sound + 1);
                S.is("by abdef", f.skill(0, 1, sound), sound + 1);
            }
        });
        S.holds(7, "'a third of how WORN the WORD is more', cut", () -> {
            int[] more = {0, 0, 0, 1, 1, 1, 2};
            FordWord f = Fords.told("9;p0444444,p0444444,p0444444,p0444444,p0444444,p0444444;a,a");
            for (int worn = 0; worn <= 6; worn++) {
                S.is("WORN by " + worn, f.skill(0, 0, 3), 4 + more[worn]);
                S.is("the other WORD is not", f.skill(0, 1, 3), 4);
                f.said(worn, 0, worn % 2);
            }
        });
        S.holds(7, "'10 at most'", () -> {
            S.is("9 and 1", wornBy(3, "p0999999").skill(0, 0, 0), 10);
            S.is("9 and 2", wornBy(6, "p0999999").skill(0, 0, 0), 10);
            S.is("8 and 2", wornBy(6, "p0888888").skill(0, 0, 0), 10);
            S.is("7 and 2", wornBy(6, "p0777777").skill(0, 0, 0), 9);
        });
    }

    /** A ford of six of these, the last ones of whom were asked the WORD, as often as told. */
    private static FordWord wornBy(int worn, String speaker) {
        FordWord f = Fords.told("9;" + (speaker + ",").repeat(5) + speaker + ";a");
        for (int s = 5; s > 5 - worn; s--) {
            f.said(s, 0, 1);
        }
        return f;
    }

    private static void skills(String what, FordWord f, int... want) {
        for (int sound = 0; sound < 6; sound++) {
            S.is(what + " at " + sound, f.skill(0, 0, sound), want[sound]);
        }
    }

    private static void teachAll(FordWord f) {
        f.guard(1, 24);
        for (int sound = 0; sound < 6; sound++) {
            f.teach(0, sound);
        }
    }

    private static void p7Kinds() {
        S.holds(7, "'0 PLAIN: what one can', TAUGHT or not", () -> {
            FordWord f = Fords.told("9;p0013589;a");
            skills("PLAIN", f, 0, 1, 3, 5, 8, 9);
            teachAll(f);
            skills("PLAIN, TAUGHT", f, 0, 1, 3, 5, 8, 9);
        });
        S.holds(7, "'1 COLD: 2 less (0 at least)', TAUGHT or not", () -> {
            FordWord f = Fords.told("9;c0012389;a");
            skills("COLD", f, 0, 0, 0, 1, 6, 7);
            teachAll(f);
            skills("COLD, TAUGHT", f, 0, 0, 0, 1, 6, 7);
        });
        S.holds(7, "COLD: 0 at least, and a third of how WORN more", () -> {
            skills("COLD, WORN by 3", wornBy(3, "c0012389"), 1, 1, 1, 2, 7, 8);
            skills("COLD, WORN by 6", wornBy(6, "c0012389"), 2, 2, 2, 3, 8, 9);
        });
        S.holds(7, "'2 APT: 3 more, if one was TAUGHT it. (All 10 at most.)'", () -> {
            FordWord f = Fords.told("9;t0016789;a");
            skills("APT", f, 0, 1, 6, 7, 8, 9);
            f.teach(0, 2);
            skills("APT, TAUGHT one", f, 0, 1, 9, 7, 8, 9);
            teachAll(f);
            skills("APT, TAUGHT all", f, 3, 4, 9, 10, 10, 10);
        });
        S.holds(7, "APT, TAUGHT and WORN: 10 at most", () -> {
            FordWord f = Fords.told("9;t0045679,p0111111,p0111111,p0111111;a");
            teachAll(f);
            for (int s = 1; s < 4; s++) {
                f.said(s, 0, 1);
            }
            skills("APT", f, 4, 8, 9, 10, 10, 10);
        });
        S.holds(7, "'3 MUTE: 0, whatever the WORD (WORN does not count)'", () -> {
            FordWord f = Fords.told("9;m0013589;a");
            skills("MUTE", f, 0, 0, 0, 0, 0, 0);
            teachAll(f);
            skills("MUTE, TAUGHT", f, 0, 0, 0, 0, 0, 0);
            skills("MUTE, WORN by 3", wornBy(3, "m0999999"), 0, 0, 0, 0, 0, 0);
            skills("MUTE, WORN by 6", wornBy(6, "m0999999"), 0, 0, 0, 0, 0, 0);
        });
        S.holds(7, "'4 CHILD (below APT): 5 at least'", () -> {
            FordWord f = Fords.told("9;h0045679;a");
            skills("CHILD", f, 5, 5, 5, 6, 7, 9);
            FordWord taught = Fords.told("9;h0123789;a");
            teachAll(taught);
            skills("CHILD, TAUGHT", taught, 5, 5, 6, 10, 10, 10);
        });
        S.holds(7, "CHILD: 5 at least, and a third of how WORN more; 10 at most", () -> {
            skills("CHILD, WORN by 3", wornBy(3, "h0045689"), 6, 6, 6, 7, 9, 10);
            skills("CHILD, WORN by 6", wornBy(6, "h0045689"), 7, 7, 7, 8, 10, 10);
        });
    }

    private static void p8() {
        S.holds(8, "'BAD: not 32 .. 126'", () -> S.range("letter", Fords::crowd, 32, 126, (f, v) -> f.type(v)));
        S.holds(8, "BAD: a number whose lowest bits are a letter", () -> {
            for (int far : new int[] {128, 256, 65536, LOW}) {
                S.refused("letter", Fords::crowd, f -> f.type(far + 'a'), BAD);
            }
        });
        S.holds(8, "'how many it has', up to 90; 'FULL: 90'", () -> {
            FordWord f = new FordWord();
            for (int many = 1; many <= 90; many++) {
                S.is("type", f.type(many % 2 == 0 ? 32 : 126), many);
            }
            S.is("one more", f.type(32), FULL);
            S.is("and one more", f.type(126), FULL);
        });
        S.holds(8, "FULL changes nothing", () -> S.refused("letter", Fords::full, f -> f.type(32), FULL));
        S.holds(8, "'of several the first': BAD; FULL", () -> {
            S.refused("31", Fords::full, f -> f.type(31), BAD);
            S.refused("127", Fords::full, f -> f.type(127), BAD);
        });
        S.holds(8, "'behind THE TAPE': a refused letter is none", () -> {
            FordWord f = new FordWord();
            f.type('3');
            f.type(31);
            f.type(127);
            Fords.type(f, ";p0111111;a");
            S.is("tongues", f.tongues(), 1);
            S.is("EAR", f.count(2), 3);
        });
    }

    private static void p9() {
        S.holds(9, "'THE TAPE, which is empty then': TONGUES or a FAULT", () -> {
            FordWord f = Fords.told("9;p0111111;a");
            S.is("behind TONGUES", f.type('x'), 1);
            S.is("tongues", f.tongues(), -20);
            S.is("behind a FAULT", f.type('x'), 1);
        });
        S.holds(9, "'the end: how many there are': THE TAPE is empty", () -> S.refused("tongues", f -> { }, FordWord::tongues, -20));
        S.holds(9, "all 90 letters are TONGUES", () -> {
            String men = "p0111111,c1222222,t0333333,m1444444,h0555555,p1666666";
            String text = "1;" + men + ";abcdef,abcdef,abcdef,abcdef,abcd,a";
            S.is("letters", text.length(), 90);
            FordWord f = new FordWord();
            Fords.type(f, text);
            S.is("one more", f.type('b'), FULL);
            S.is("tongues", f.tongues(), 6);
            S.is("WORDS", f.count(1), 6);
            S.is("the last", f.worn(5, 0), 1);
        });
        S.holds(9, "'a digit (EAR)': 0, 9; 10 can't be told", () -> {
            S.is("EAR 0", Fords.told("0;p0111111;a").count(2), 0);
            S.is("EAR 9", Fords.told("9;p0111111;a").count(2), 9);
            S.is("EAR 10", Fords.tongues(new FordWord(), "10;p0111111;a"), -21);
        });
        S.holds(9, "'in place of all SPEAKERS, WORDS, of EAR; HOUR 0, THE BOOK is empty (TIRES, THE DRAW stay)'", () -> {
            FordWord f = Fords.of(Fords::crowd);
            f.said(2, 1, 1);
            f.seed(HIGH);
            f.tongues();
            S.is("tongues", Fords.tongues(f, "0;m1999999;f"), 1);
            int[] counts = {1, 1, 0, 3, 0, 0, 1, 0, 0, 0, 0};
            for (int what = 0; what < counts.length; what++) {
                S.is("count " + what, f.count(what), counts[what]);
            }
            S.is("KIND", f.of(0, 0), 3);
            S.is("BANK", f.of(0, 1), 1);
            S.is("TAUGHT", f.of(0, 3), 0);
            S.is("SOUNDS", f.worn(0, 0), 32);
            S.is("WORN", f.worn(0, 1), 0);
            S.is("HEARD WRONG", f.heardWrong(0), 0);
            S.is("no other SPEAKER", f.of(1, 0), BAD);
            S.is("no other WORD", f.worn(1, 0), BAD);
            S.is("THE DRAW", f.seed(1), HIGH);
            S.is("SHEETS", f.drop(0), 6);
            S.is("IMAGE", f.restore(), 1);
        });
        S.holds(9, "'TONGUES .. leave nothing to be UNDONE'", () -> {
            FordWord f = Fords.of(Fords::crowd);
            f.tongues();
            S.is("a FAULT leaves it", f.count(10), 3);
            Fords.tongues(f, "9;p0111111;a");
            S.is("count", f.count(10), 0);
            S.is("undo", f.undo(), NONE);
        });
        S.holds(9, "more behind TONGUES: as they come", () -> {
            FordWord f = Fords.told("9;p0111111,p0111111,p0111111,p0111111,p0111111;a,b,c,d,e");
            S.is("speaker", f.speaker(0, 0, 0), 5);
            S.is("speaker", f.speaker(0, 0, 0), FULL);
            S.is("word", f.word(1), 5);
            S.is("word", f.word(1), FULL);
        });
    }

    private static void fault(String text, int place) {
        S.is("'" + text + "'", Fords.tongues(new FordWord(), text), -20 - place);
    }

    private static void fine(String text, int speakers) {
        S.is("'" + text + "'", Fords.tongues(new FordWord(), text), speakers);
    }

    private static void p9Speakers() {
        S.holds(9, "a digit (EAR), then ;", () -> {
            for (String other : new String[] {"/", ":", "a", ";", "-", "~"}) {
                fault(other, 0);
                fault(other + ";p0111111;a", 0);
            }
            for (String other : new String[] {":", "<", ",", "0", "p"}) {
                fault("9" + other, 1);
                fault("9" + other + "p0111111;a", 1);
            }
        });
        S.holds(9, "'1 to 6 SPEAKERS with , between'", () -> {
            fault("9;;a", 2);
            String men = "p0111111";
            for (int many = 1; many <= 6; many++) {
                fine("9;" + men + ";a", many);
                // a comma behind the sixth can't stand there itself
                int behind = many < 6 ? 3 + men.length() : 2 + men.length();
                fault("9;" + men + ",;a", behind);
                fault("9;" + men + ",", behind);
                fault("9;," + men + ";a", 2);
                fault("9;" + men + "p0111111;a", 2 + men.length());
                men += ",p0111111";
            }
            fault("9;" + men + ";a", 55);
        });
        S.holds(9, "'p c t m h (KINDS in this order)'", () -> {
            for (int kind = 0; kind < 5; kind++) {
                S.is("KIND", Fords.told("9;" + "pctmh".charAt(kind) + "0111111;a").of(0, 0), kind);
            }
            for (String other : new String[] {"o", "q", "b", "d", "s", "u", "l", "n", "g", "i", "P", "H", "0", ","}) {
                fault("9;" + other + "0111111;a", 2);
            }
        });
        S.holds(9, "'a digit 0 or 1 (BANK)'", () -> {
            S.is("BANK 0", Fords.told("9;p0111111;a").of(0, 1), 0);
            S.is("BANK 1", Fords.told("9;p1111111;a").of(0, 1), 1);
            for (String other : new String[] {"2", "9", "/", "p", ",", ";"}) {
                fault("9;p" + other + "111111;a", 3);
            }
        });
        S.holds(9, "'six digits (what it can of SOUNDS 0 .. 5)'", () -> {
            FordWord f = Fords.told("9;p0905182;a");
            int[] can = {9, 0, 5, 1, 8, 2};
            for (int sound = 0; sound < 6; sound++) {
                S.is("can " + sound, f.can(0, sound, 0), can[sound]);
            }
            for (int digits = 0; digits < 6; digits++) {
                String some = "9;p0" + "9".repeat(digits);
                fault(some, 4 + digits);
                fault(some + ";a", 4 + digits);
                fault(some + ",p0111111;a", 4 + digits);
                fault(some + "/", 4 + digits);
                fault(some + ":", 4 + digits);
            }
            fault("9;p09999999;a", 10);
        });
    }

    private static void p9Words() {
        S.holds(9, "'then ; and 1 to 6 WORDS with , between'", () -> {
            fault("9;p0111111", 10);
            fault("9;p0111111a", 10);
            fault("9;p0111111;", 11);
            fault("9;p0111111;;a", 11);
            String words = "a";
            for (int many = 1; many <= 6; many++) {
                S.is("WORDS", Fords.told("9;p0111111;" + words).count(1), many);
                fault("9;p0111111;" + words + ",", many == 6 ? 22 : 12 + words.length());
                fault("9;p0111111;," + words, 11);
                fault("9;p0111111;" + words + ";", 11 + words.length());
                words += ",a";
            }
            fault("9;p0111111;" + words, 22);
            fault("9;p0111111;a,,b", 13);
        });
        S.holds(9, "'letters a .. f (SOUNDS 0 .. 5)'", () -> {
            for (int sound = 0; sound < 6; sound++) {
                S.is("SOUND", Fords.told("9;p0111111;" + (char) ('a' + sound)).worn(0, 0), 1 << sound);
            }
            for (String other : new String[] {"`", "g", "A", "F", "0", "p"}) {
                fault("9;p0111111;" + other, 11);
                fault("9;p0111111;a" + other, 12);
            }
        });
        S.holds(9, "'each once, rising'", () -> {
            S.is("all", Fords.told("9;p0111111;abcdef").worn(0, 0), 63);
            S.is("the ends", Fords.told("9;p0111111;af").worn(0, 0), 33);
            for (int sound = 0; sound < 6; sound++) {
                char letter = (char) ('a' + sound);
                fault("9;p0111111;" + letter + letter, 12);
                fault("9;p0111111;" + letter + "a", 12);
            }
            fault("9;p0111111;fe", 12);
            fault("9;p0111111;aba", 13);
            fault("9;p0111111;abb", 13);
            fault("9;p0111111;abcdeff", 17);
            S.is("anew in the next WORD", Fords.told("9;p0111111;f,a").worn(1, 0), 1);
        });
    }

    private static void p9Faults() {
        S.holds(9, "'A FAULT (all else stays)'", () -> {
            S.refused("a fault", f -> {
                Fords.crowd(f);
                f.tongues();
            }, f -> Fords.tongues(f, "1;c1222222,m0333333;b,c,"), -44);
            S.refused("a fault at the last letter", f -> {
                Fords.crowd(f);
                f.tongues();
            }, f -> Fords.tongues(f, "1;c1222222;bb"), -32);
        });
        S.holds(9, "'blanks count for nothing'", () -> {
            fine("   9;p0111111;a", 1);
            fine("9;p0111111;a   ", 1);
            fine(" 9 ; p 0 1 1 1 1 1 1 , c 1 2 2 2 2 2 2 ; a b , c ", 2);
            S.is("in a WORD", Fords.told("9;p0111111;a  b").worn(0, 0), 3);
        });
        S.holds(9, "'the place of the first letter (behind blanks) that can't stand there'", () -> {
            fault(" x", 1);
            fault("   x", 3);
            fault("9   9", 4);
            fault("9; p 2", 5);
            fault("9;p0111111;a  a", 14);
            fault("9;p0111111;  ,", 13);
            fault("x  ", 0);
        });
        S.holds(9, "'the end: how many there are', blanks too", () -> {
            fault(" ", 1);
            fault("   ", 3);
            fault("9 ", 2);
            fault("9;p0111111; ", 12);
            fault("9;p0111111;a, ", 14);
        });
        S.holds(9, "the last place of a FAULT: 90 letters", () -> {
            fault(" ".repeat(90), 90);
            fault("9;" + " ".repeat(88), 90);
            fault(" ".repeat(89) + "x", 89);
            fault("9;p0111111;a" + " ".repeat(77) + "a", 89);
            fine("9;p0111111;a" + " ".repeat(77) + "b", 1);
        });
        S.holds(9, "of several faults the first", () -> {
            fault("9;q2x;;", 2);
            fault("9;p0111111;ag,,", 12);
        });
    }

    private static void p10() {
        S.holds(10, "BAD: what is 0 .. 10", () -> S.range("what", Fords::crowd, 0, 10, (f, v) -> f.count(v)));
        S.holds(10, "SPEAKERS, WORDS: none, six", () -> {
            S.is("none", new FordWord().count(0), 0);
            S.is("none", new FordWord().count(1), 0);
            S.is("six", Fords.of(Fords::full).count(0), 6);
            S.is("six", Fords.of(Fords::full).count(1), 6);
        });
        S.holds(10, "who WAITS, OVER, DEAD: sets, none of six, all six", () -> {
            for (int is = 0; is <= 1; is++) {
                FordWord f = wornBy(0, "p0555555");
                S.is("all WAIT", f.count(6), 63);
                for (int s = 5; s >= 0; s--) {
                    f.said(s, 0, is);
                    S.is("WAITS", f.count(6), (1 << s) - 1);
                    S.is("OVER", f.count(7), is == 1 ? 64 - (1 << s) : 0);
                    S.is("DEAD", f.count(8), is == 0 ? 64 - (1 << s) : 0);
                }
            }
        });
        S.holds(10, "in THE BOOK: one more by each who was ASKED", () -> {
            FordWord f = wornBy(0, "p0555555");
            for (int s = 0; s < 6; s++) {
                S.is("entries", f.count(9), s);
                if (s % 2 == 0) {
                    f.ask(s, 0);
                } else {
                    f.said(s, 0, 1);
                }
            }
            S.is("entries", f.count(9), 6);
            f.rest();
            S.is("no entry by RESTED", f.count(9), 6);
        });
        S.holds(10, "what may be UNDONE: '(8 are known, older ones lost)'", () -> {
            FordWord f = new FordWord();
            for (int many = 1; many <= 20; many++) {
                f.rest();
                S.is("known", f.count(10), many < 8 ? many : 8);
            }
        });
        S.holds(10, "HOUR: one more by each who was ASKED, TAUGHT; 42 at most", () -> {
            FordWord f = wornBy(0, "p0555555");
            int hour = 0;
            for (int s = 0; s < 6; s++) {
                for (int sound = 0; sound < 6; sound++) {
                    f.teach(s, sound);
                    hour++;
                }
                f.said(s, 0, s % 2);
                hour++;
                S.is("HOUR", f.count(4), hour);
            }
            S.is("HOUR", f.count(4), 42);
        });
    }

    private static void p10Hears() {
        S.holds(10, "HEARS: 'EAR, less a TIRESth of the HOUR', cut", () -> {
            for (int tires : new int[] {1, 2, 4, 5, 23, 24}) {
                FordWord f = wornBy(0, "p0555555");
                f.guard(0, 10);
                f.guard(1, tires);
                for (int hour = 0; hour < 30; hour++) {
                    S.is("TIRES " + tires + ", HOUR " + hour, f.count(5), Math.max(0, 10 - hour / tires));
                    f.teach(hour / 6, hour % 6);
                }
            }
        });
        S.holds(10, "HEARS: '0 at least'", () -> {
            FordWord f = wornBy(0, "p0555555");
            f.guard(1, 1);
            f.guard(0, 2);
            int[] hears = {2, 1, 0, 0, 0};
            for (int hour = 0; hour < 5; hour++) {
                S.is("HOUR " + hour, f.count(5), hears[hour]);
                f.teach(0, hour);
            }
            f.guard(0, 0);
            S.is("EAR 0", f.count(5), 0);
            f.rest();
            S.is("EAR 0, HOUR 0", f.count(5), 0);
        });
        S.holds(10, "HEARS: 10 at most", () -> {
            FordWord f = new FordWord();
            f.guard(0, 10);
            S.is("EAR 10", f.count(5), 10);
        });
    }

    private static void p11() {
        S.holds(11, "BAD: there is no such WORD", () -> S.range("word", Fords::crowd, 0, 2, (f, v) -> f.worn(v, 0)));
        S.holds(11, "BAD: what is 0 or 1", () -> S.range("what", Fords::crowd, 0, 1, (f, v) -> f.worn(0, v)));
        S.holds(11, "all six WORDS", () -> S.range("word", Fords::full, 0, 5, (f, v) -> f.worn(v, 1)));
        S.holds(11, "its SOUNDS: the least set, the greatest", () -> {
            FordWord f = new FordWord();
            f.word(1);
            f.word(63);
            S.is("least", f.worn(0, 0), 1);
            S.is("greatest", f.worn(1, 0), 63);
        });
        S.holds(11, "WORN: never asked, asked by all six", () -> {
            S.is("never", wornBy(0, "p0555555").worn(0, 1), 0);
            S.is("once", wornBy(1, "p0555555").worn(0, 1), 1);
            S.is("by all", wornBy(6, "p0555555").worn(0, 1), 6);
        });
        S.holds(11, "WORN stays: a refused call, RESTED, TAUGHT", () -> {
            FordWord f = wornBy(2, "p0555555");
            f.said(5, 0, 1);
            f.ask(5, 0);
            f.rest();
            f.teach(0, 0);
            S.is("WORN", f.worn(0, 1), 2);
        });
    }
}
