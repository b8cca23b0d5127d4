import java.util.Arrays;
import java.util.Random;

/** Runs of random calls (always the same ones), each answer compared with that of the model. */
public final class RandomRunsTest {
    private static final int RUNS = 3000;
    private static final int MOST_CALLS = 512;
    private static final int MOST_SHOWN = 20;
    private static final int NONE = FordWord.NONE;

    private static final String[] NAMES = {
        "speaker", "can", "word", "guard", "of", "skill", "type", "tongues", "count", "worn",
        "ask", "said", "teach", "rest", "undo", "seed",
        "pass", "wrongs", "parting", "learn", "cross", "line", "proof", "heardWrong", "image", "restore",
        "who", "film", "sheet", "drop", "item", "copy"};

    private static final Due DUE = new Due();
    private static final int[] seen = new int[NAMES.length];
    private static final int[] fine = new int[NAMES.length];

    private final Random random;
    private final FordWord ford = new FordWord();
    private final Model model = new Model();
    private final int run;
    private final int wildness;
    private int calls;

    private RandomRunsTest(int run) {
        this.run = run;
        this.random = new Random(run);
        this.wildness = random.nextInt(4) == 0 ? 30 : 4;
    }

    public static void main(String[] args) {
        for (int run = 0; run < RUNS && DUE.wrong() < MOST_SHOWN; run++) {
            new RandomRunsTest(run).go();
        }
        for (int c = 0; c < NAMES.length; c++) {
            DUE.isTrue(NAMES[c] + " was called", seen[c] > 0);
            DUE.isTrue(NAMES[c] + " was not always refused", fine[c] > 0);
        }
        DUE.end();
    }

    private void go() {
        if (random.nextInt(3) != 0) {
            typeTongues(random.nextInt(5) == 0);
        }
        while (calls < MOST_CALLS && DUE.wrong() < MOST_SHOWN) {
            if (random.nextInt(60) == 0) {
                typeTongues(random.nextInt(2) == 0);
            } else if (random.nextInt(25) == 0) {
                tellRow();
            } else {
                randomCall();
            }
        }
    }

    private void call(int which, long... a) {
        if (calls >= MOST_CALLS) {
            return;
        }
        calls++;
        int got = answer(which, a);
        seen[which]++;
        if (got >= 0) {
            fine[which]++;
        }
        int want = modelAnswer(which, a);
        DUE.is("run " + run + " call " + calls + ": " + NAMES[which] + Arrays.toString(a), got, want);
    }

    private int between(int least, int most) {
        int dice = random.nextInt(100);
        if (dice < wildness / 3) {
            int[] wild = {Integer.MIN_VALUE, Integer.MAX_VALUE, -1, -2, NONE, 6, 7, 24, 25, 63, 64, 9999, 10000, 1 << 30};
            return wild[random.nextInt(wild.length)];
        }
        if (dice < wildness) {
            return random.nextBoolean() ? least - 1 : most + 1;
        }
        return least + random.nextInt(most - least + 1);
    }

    private int someone() {
        return between(0, Math.max(0, model.w.men.size() - 1));
    }

    private int someWord() {
        return between(0, Math.max(0, model.w.sayings.size() - 1));
    }

    private int laneOf(int sheet) {
        if (sheet < 0 || sheet > 3 || model.sheets[sheet] == null || random.nextInt(12) == 0) {
            return between(0, 3);
        }
        Object row = model.sheets[sheet];
        return row instanceof byte[] ? 0 : row instanceof short[] ? 1 : row instanceof int[] ? 2 : 3;
    }

    private void randomCall() {
        int which = random.nextInt(NAMES.length);
        if (which == 6 && random.nextInt(4) != 0) {
            which = 12;
        }
        if ((which == 10 || which == 11) && random.nextInt(3) != 0) {
            which = 23;
        }
        switch (which) {
            case 0 -> call(which, between(0, 4), between(0, 1), between(0, 9));
            case 1 -> call(which, someone(), between(0, 5), between(0, 9));
            case 2 -> call(which, between(1, 63));
            case 3 -> {
                int what = between(0, 1);
                call(which, what, what == 0 ? between(0, 10) : between(1, 24));
            }
            case 4 -> call(which, someone(), between(0, 3));
            case 5 -> call(which, someone(), someWord(), between(0, 5));
            case 6 -> call(which, between(32, 126));
            case 8 -> call(which, between(0, 10));
            case 9 -> call(which, someWord(), between(0, 1));
            case 10 -> call(which, someone(), someWord());
            case 11 -> call(which, someone(), someWord(), between(0, 1));
            case 12 -> call(which, someone(), between(0, 5));
            case 15 -> call(which, random.nextInt(9) == 0 ? between(0, 9) : random.nextInt() & Integer.MAX_VALUE);
            case 16 -> call(which, someone(), someWord(), random.nextInt(3) == 0 ? NONE : between(0, random.nextInt(5) == 0 ? 9999 : 99));
            case 17 -> call(which, someWord());
            case 18, 23 -> call(which, between(0, 1));
            case 19 -> call(which, someone(), someWord(), between(0, 6), between(0, 1));
            case 20 -> call(which, someone(), someWord(), between(0, 1));
            case 21 -> {
                int word = someWord();
                for (int k = -1; k <= model.w.men.size(); k++) {
                    call(which, word, k);
                }
                call(which, word, between(-1, 5));
            }
            case 22 -> call(which, random.nextInt(3) == 0 ? between(0, 1000000) : random.nextInt(9) * 125000);
            case 26 -> sheetCall(which);
            case 27 -> sheetCall(which);
            case 28 -> call(which, between(0, 3), between(0, 3), random.nextInt(3) == 0 ? 24 : between(0, 24));
            case 29 -> {
                if (random.nextInt(3) == 0) {
                    call(which, between(0, 3));
                }
            }
            case 30, 31 -> sheetCall(which);
            default -> call(which);
        }
    }

    private void sheetCall(int which) {
        int sheet = between(0, 3);
        if (which == 26) {
            call(which, sheet, laneOf(sheet), between(0, 10), between(1, 8), random.nextBoolean() ? NONE : someone());
        } else if (which == 27) {
            call(which, someone(), someWord(), between(1, 24), sheet, laneOf(sheet), between(0, 6));
        } else if (which == 30) {
            long v = random.nextInt(4) == 0 ? random.nextLong() : (long) random.nextInt(3) << random.nextInt(40);
            call(which, sheet, laneOf(sheet), between(0, 23), v);
        } else {
            int to = random.nextInt(3) == 0 ? sheet : between(0, 3);
            call(which, sheet, between(0, 12), to, between(0, 12), between(0, 12));
        }
    }

    /** A row that tells of WORDS, and what it says of each SPEAKER. */
    private void tellRow() {
        int sheet = random.nextInt(4);
        int lane = random.nextInt(4);
        int n = 1 + random.nextInt(8);
        int from = random.nextInt(25 - 2 * n);
        call(28, sheet, lane, 24);
        for (int k = 0; k < n; k++) {
            // bits above a LANE's own count for nothing
            long above = lane == 3 || random.nextInt(5) != 0 ? 0 : 1L << (8 << lane);
            call(30, sheet, lane, from + 2 * k, someWord() + above);
            call(30, sheet, lane, from + 2 * k + 1, random.nextInt(2) + above);
        }
        for (int speaker = 0; speaker < model.w.men.size(); speaker++) {
            call(26, sheet, lane, from, n, speaker);
        }
        call(26, sheet, lane, from, n, NONE);
    }

    private void typeTongues(boolean spoilt) {
        StringBuilder text = new StringBuilder();
        text.append((char) ('0' + random.nextInt(10))).append(';');
        int men = 1 + random.nextInt(6);
        for (int m = 0; m < men; m++) {
            text.append(m == 0 ? "" : ",").append("pctmh".charAt(random.nextInt(5))).append(random.nextInt(2));
            for (int sound = 0; sound < 6; sound++) {
                text.append(random.nextInt(10));
            }
        }
        text.append(';');
        int words = 1 + random.nextInt(6);
        for (int v = 0; v < words; v++) {
            int set = 1 + random.nextInt(63);
            text.append(v == 0 ? "" : ",");
            for (int sound = 0; sound < 6; sound++) {
                text.append((set >> sound & 1) == 1 ? "" + (char) ('a' + sound) : "");
            }
        }
        for (int blanks = random.nextInt(4); blanks > 0 && text.length() < 80; blanks--) {
            text.insert(random.nextInt(text.length() + 1), ' ');
        }
        if (spoilt) {
            spoil(text);
        }
        for (int at = 0; at < text.length(); at++) {
            call(6, text.charAt(at));
        }
        call(7);
        for (int what = 0; what <= 10; what++) {
            call(8, what);
        }
    }

    private void spoil(StringBuilder text) {
        int at = random.nextInt(text.length());
        char other = "0159;,pctmhabcdef x".charAt(random.nextInt(19));
        switch (random.nextInt(4)) {
            case 0 -> text.setLength(at);
            case 1 -> text.deleteCharAt(at);
            case 2 -> text.setCharAt(at, other);
            default -> text.insert(at, other);
        }
    }

    private static int i(long v) {
        return (int) v;
    }

    private int answer(int which, long[] a) {
        return switch (which) {
            case 0 -> ford.speaker(i(a[0]), i(a[1]), i(a[2]));
            case 1 -> ford.can(i(a[0]), i(a[1]), i(a[2]));
            case 2 -> ford.word(i(a[0]));
            case 3 -> ford.guard(i(a[0]), i(a[1]));
            case 4 -> ford.of(i(a[0]), i(a[1]));
            case 5 -> ford.skill(i(a[0]), i(a[1]), i(a[2]));
            case 6 -> ford.type(i(a[0]));
            case 7 -> ford.tongues();
            case 8 -> ford.count(i(a[0]));
            case 9 -> ford.worn(i(a[0]), i(a[1]));
            case 10 -> ford.ask(i(a[0]), i(a[1]));
            case 11 -> ford.said(i(a[0]), i(a[1]), i(a[2]));
            case 12 -> ford.teach(i(a[0]), i(a[1]));
            case 13 -> ford.rest();
            case 14 -> ford.undo();
            case 15 -> ford.seed(i(a[0]));
            case 16 -> ford.pass(i(a[0]), i(a[1]), i(a[2]));
            case 17 -> ford.wrongs(i(a[0]));
            case 18 -> ford.parting(i(a[0]));
            case 19 -> ford.learn(i(a[0]), i(a[1]), i(a[2]), i(a[3]));
            case 20 -> ford.cross(i(a[0]), i(a[1]), i(a[2]));
            case 21 -> ford.line(i(a[0]), i(a[1]));
            case 22 -> ford.proof(i(a[0]));
            case 23 -> ford.heardWrong(i(a[0]));
            case 24 -> ford.image();
            case 25 -> ford.restore();
            case 26 -> ford.who(i(a[0]), i(a[1]), i(a[2]), i(a[3]), i(a[4]));
            case 27 -> ford.film(i(a[0]), i(a[1]), i(a[2]), i(a[3]), i(a[4]), i(a[5]));
            case 28 -> ford.sheet(i(a[0]), i(a[1]), i(a[2]));
            case 29 -> ford.drop(i(a[0]));
            case 30 -> ford.item(i(a[0]), i(a[1]), i(a[2]), a[3]);
            default -> ford.copy(i(a[0]), i(a[1]), i(a[2]), i(a[3]), i(a[4]));
        };
    }

    private int modelAnswer(int which, long[] a) {
        return switch (which) {
            case 0 -> model.speaker(i(a[0]), i(a[1]), i(a[2]));
            case 1 -> model.can(i(a[0]), i(a[1]), i(a[2]));
            case 2 -> model.word(i(a[0]));
            case 3 -> model.guard(i(a[0]), i(a[1]));
            case 4 -> model.of(i(a[0]), i(a[1]));
            case 5 -> model.skill(i(a[0]), i(a[1]), i(a[2]));
            case 6 -> model.type(i(a[0]));
            case 7 -> model.tongues();
            case 8 -> model.count(i(a[0]));
            case 9 -> model.worn(i(a[0]), i(a[1]));
            case 10 -> model.ask(i(a[0]), i(a[1]));
            case 11 -> model.said(i(a[0]), i(a[1]), i(a[2]));
            case 12 -> model.teach(i(a[0]), i(a[1]));
            case 13 -> model.rest();
            case 14 -> model.undo();
            case 15 -> model.seed(i(a[0]));
            case 16 -> model.pass(i(a[0]), i(a[1]), i(a[2]));
            case 17 -> model.wrongs(i(a[0]));
            case 18 -> model.parting(i(a[0]));
            case 19 -> model.learn(i(a[0]), i(a[1]), i(a[2]), i(a[3]));
            case 20 -> model.cross(i(a[0]), i(a[1]), i(a[2]));
            case 21 -> model.line(i(a[0]), i(a[1]));
            case 22 -> model.proof(i(a[0]));
            case 23 -> model.heardWrong(i(a[0]));
            case 24 -> model.image();
            case 25 -> model.restore();
            case 26 -> model.who(i(a[0]), i(a[1]), i(a[2]), i(a[3]), i(a[4]));
            case 27 -> model.film(i(a[0]), i(a[1]), i(a[2]), i(a[3]), i(a[4]), i(a[5]));
            case 28 -> model.sheet(i(a[0]), i(a[1]), i(a[2]));
            case 29 -> model.drop(i(a[0]));
            case 30 -> model.item(i(a[0]), i(a[1]), i(a[2]), a[3]);
            default -> model.copy(i(a[0]), i(a[1]), i(a[2]), i(a[3]), i(a[4]));
        };
    }
}
