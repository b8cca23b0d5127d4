/**
 * Say the word at the ford. The words in capitals, and what each call answers and changes,
 * are those of the document (DOC.md).
 */
public final class FordWord {
    public static final int BAD = -1;
    public static final int NOT = -2;
    public static final int FULL = -3;
    public static final int NONE = -4;
    public static final int NULL = -11;
    public static final int CAST = -12;
    public static final int INDEX = -13;
    public static final int SIZE = -14;

    private static final int MILLION = 1000000;
    private static final int TEN = 10;
    private static final int LOWEST_31_BITS = 0x7fffffff;
    private static final int FINE = 0;

    private static final int SOUNDS = 6;
    private static final int ALL_SOUNDS = (1 << SOUNDS) - 1;
    private static final int MOST_SPEAKERS = 6;
    private static final int MOST_WORDS = 6;
    private static final int MOST_SKILL = 9;
    private static final int MOST_TIRES = 24;
    private static final int LAST_HOUR = 9999;
    private static final int HOURS_AHEAD = 24;

    private static final int PLAIN = 0;
    private static final int COLD = 1;
    private static final int APT = 2;
    private static final int MUTE = 3;
    private static final int CHILD = 4;

    private static final int WAITS = 0;
    private static final int OVER = 1;
    private static final int DEAD = 2;

    private static final int BOOK_LENGTH = 12;
    private static final int MOST_UNDONE = 8;
    private static final int TAPE_LENGTH = 90;
    private static final int FIRST_FAULT = -20;

    private static final int SHEETS = 4;
    private static final int LAST_LANE = 3;
    private static final int MOST_ITEMS = 24;
    private static final int MOST_TOLD = 8;

    private final Ford ford = new Ford();
    private final Ford kept = new Ford();
    private boolean isKept;
    private final Foretold foretold = new Foretold(ford);
    private final Tape tape = new Tape();
    private final Sheet[] sheets = new Sheet[SHEETS];

    /** A ford, nobody. */
    public FordWord() {
        for (int s = 0; s < SHEETS; s++) {
            sheets[s] = new Sheet();
        }
    }

    // ---- 1 speakers, words

    public int speaker(int kind, int bank, int v) {
        if (!isIn(kind, PLAIN, CHILD) || !isIn(bank, 0, 1) || !isIn(v, 0, MOST_SKILL)) {
            return BAD;
        }
        if (ford.speakers >= MOST_SPEAKERS) {
            return FULL;
        }
        int number = ford.addSpeaker(kind, bank);
        for (int sound = 0; sound < SOUNDS; sound++) {
            ford.can[number * SOUNDS + sound] = v;
        }
        ford.known = 0;
        return number;
    }

    public int can(int speaker, int sound, int v) {
        if (!isSpeaker(speaker) || !isIn(sound, 0, SOUNDS - 1) || !isIn(v, 0, MOST_SKILL)) {
            return BAD;
        }
        int was = ford.can[speaker * SOUNDS + sound];
        ford.can[speaker * SOUNDS + sound] = v;
        return was;
    }

    public int word(int sounds) {
        if (!isIn(sounds, 1, ALL_SOUNDS)) {
            return BAD;
        }
        if (ford.words >= MOST_WORDS) {
            return FULL;
        }
        ford.known = 0;
        return ford.addWord(sounds);
    }

    public int guard(int what, int v) {
        if (what == 0 && isIn(v, 0, TEN)) {
            int was = ford.ear;
            ford.ear = v;
            return was;
        }
        if (what == 1 && isIn(v, 1, MOST_TIRES)) {
            int was = ford.tires;
            ford.tires = v;
            return was;
        }
        return BAD;
    }

    public int of(int speaker, int what) {
        if (!isSpeaker(speaker)) {
            return BAD;
        }
        switch (what) {
            case 0:
                return ford.kind[speaker];
            case 1:
                return ford.bank[speaker];
            case 2:
                return ford.moment.fate[speaker];
            case 3:
                return ford.moment.taught[speaker];
            default:
                return BAD;
        }
    }

    public int skill(int speaker, int word, int sound) {
        if (!isSpeaker(speaker) || !isWord(word) || !isIn(sound, 0, SOUNDS - 1)) {
            return BAD;
        }
        return ford.skillAt(speaker, sound, ford.moment.taught[speaker], ford.moment.worn[word]);
    }

    public int type(int letter) {
        if (!isIn(letter, ' ', '~')) {
            return BAD;
        }
        if (tape.length >= TAPE_LENGTH) {
            return FULL;
        }
        tape.letters[tape.length] = (char) letter;
        tape.length++;
        return tape.length;
    }

    public int tongues() {
        boolean isRead = tape.isTongues();
        tape.length = 0;
        if (!isRead) {
            return FIRST_FAULT - tape.place;
        }
        ford.settle(tape.read);
        return ford.speakers;
    }

    public int count(int what) {
        switch (what) {
            case 0:
                return ford.speakers;
            case 1:
                return ford.words;
            case 2:
                return ford.ear;
            case 3:
                return ford.tires;
            case 4:
                return ford.moment.hour;
            case 5:
                return ford.hearsIn(ford.moment.hour);
            case 6:
                return ford.allWhoAre(WAITS);
            case 7:
                return ford.allWhoAre(OVER);
            case 8:
                return ford.allWhoAre(DEAD);
            case 9:
                return ford.moment.book.length;
            case 10:
                return ford.known;
            default:
                return BAD;
        }
    }

    public int worn(int word, int what) {
        if (!isWord(word) || !isIn(what, 0, 1)) {
            return BAD;
        }
        return what == 0 ? ford.sounds[word] : ford.moment.worn[word];
    }

    // ---- what is done

    public int ask(int speaker, int word) {
        int refused = whyNotAsked(speaker, word);
        if (refused != FINE) {
            return refused;
        }
        int pass = ford.passNow(speaker, word);
        ford.remember();
        int fate = ford.moment.nextDraw() < pass ? OVER : DEAD;
        ford.moment.putAsked(speaker, word, pass, fate);
        return fate == OVER ? 1 : 0;
    }

    public int said(int speaker, int word, int is) {
        if (!isIn(is, 0, 1)) {
            return BAD;
        }
        int refused = whyNotAsked(speaker, word);
        if (refused != FINE) {
            return refused;
        }
        int pass = ford.passNow(speaker, word);
        ford.remember();
        ford.moment.putAsked(speaker, word, pass, is == 1 ? OVER : DEAD);
        return pass;
    }

    public int teach(int speaker, int sound) {
        if (!isSpeaker(speaker) || !isIn(sound, 0, SOUNDS - 1)) {
            return BAD;
        }
        Moment moment = ford.moment;
        if (has(moment.taught[speaker], sound) || moment.fate[speaker] != WAITS) {
            return NOT;
        }
        if (moment.hour >= LAST_HOUR) {
            return FULL;
        }
        ford.remember();
        moment.taught[speaker] |= 1 << sound;
        moment.hour++;
        return moment.taught[speaker];
    }

    public int rest() {
        ford.remember();
        int was = ford.moment.hour;
        ford.moment.hour = 0;
        return was;
    }

    public int undo() {
        if (ford.known <= 0) {
            return NONE;
        }
        ford.goBack();
        return ford.known;
    }

    public int seed(int v) {
        if (v < 0) {
            return BAD;
        }
        int was = ford.moment.draw;
        ford.moment.draw = v;
        return was;
    }

    // ---- 2 foretold

    public int pass(int speaker, int word, int hour) {
        if (!isSpeaker(speaker) || !isWord(word)) {
            return BAD;
        }
        if (hour == NONE) {
            return ford.passNow(speaker, word);
        }
        return isIn(hour, 0, LAST_HOUR) ? ford.passIn(speaker, word, hour) : BAD;
    }

    public int wrongs(int word) {
        return isWord(word) ? foretold.wrongsBy(word) : BAD;
    }

    public int parting(int what) {
        if (!isIn(what, 0, 1)) {
            return BAD;
        }
        if (ford.words == 0) {
            return NONE;
        }
        int word = foretold.partingWord();
        return what == 0 ? word : foretold.wrongsBy(word);
    }

    public int learn(int speaker, int word, int n, int what) {
        if (!isSpeaker(speaker) || !isWord(word) || !isIn(n, 0, SOUNDS) || !isIn(what, 0, 1)) {
            return BAD;
        }
        int set = foretold.soundsToLearn(speaker, word, n);
        return what == 0 ? set : foretold.passOnceTaught(speaker, word, set);
    }

    public int cross(int speaker, int word, int what) {
        if (!isSpeaker(speaker) || !isWord(word) || !isIn(what, 0, 1)) {
            return BAD;
        }
        int hour = foretold.hourToCross(speaker, word);
        return what == 0 ? hour : ford.passIn(speaker, word, hour);
    }

    public int line(int word, int k) {
        if (!isWord(word) || k < -1) {
            return BAD;
        }
        int waiting = ford.allWhoAre(WAITS);
        if (k >= Integer.bitCount(waiting)) {
            return NONE;
        }
        foretold.weighLines(word, waiting);
        return k == -1 ? foretold.least[waiting] : foretold.whoComesAt(k, waiting);
    }

    public int proof(int s) {
        return isIn(s, 0, MILLION) ? foretold.wordsOfProof(s) : BAD;
    }

    public int heardWrong(int what) {
        if (!isIn(what, 0, 1)) {
            return BAD;
        }
        return what == 0 ? foretold.howManyHeardWrong() : foretold.unluckiestHeardWrong();
    }

    public int image() {
        kept.becomeLike(ford);
        isKept = true;
        return 1;
    }

    public int restore() {
        if (!isKept) {
            return NONE;
        }
        ford.becomeLike(kept);
        return 1;
    }

    // ---- 3 sheets

    public int who(int sheet, int lane, int i, int n, int speaker) {
        if (!isSheet(sheet) || !isIn(lane, 0, LAST_LANE) || !isIn(n, 1, MOST_TOLD)) {
            return BAD;
        }
        if (speaker != NONE && !isSpeaker(speaker)) {
            return BAD;
        }
        Sheet row = sheets[sheet];
        int refused = row.whyNotTaken(lane, i, 2 * n);
        if (refused != FINE) {
            return refused;
        }
        if (!areTold(row, i, n)) {
            return NOT;
        }
        foretold.weighLikes(row, i, n);
        return speaker == NONE ? foretold.likeliest() : foretold.partFor(speaker);
    }

    public int film(int speaker, int word, int n, int sheet, int lane, int i) {
        if (!isSpeaker(speaker) || !isWord(word) || !isIn(n, 1, HOURS_AHEAD)) {
            return BAD;
        }
        if (!isSheet(sheet) || !isIn(lane, 0, LAST_LANE)) {
            return BAD;
        }
        Sheet row = sheets[sheet];
        int refused = row.whyNotTaken(lane, i, n);
        if (refused != FINE) {
            return refused;
        }
        for (int t = 0; t < n; t++) {
            row.put(i + t, ford.passIn(speaker, word, ford.moment.hour + t));
        }
        return n;
    }

    public int sheet(int sheet, int lane, int n) {
        if (!isSheet(sheet) || !isIn(lane, 0, LAST_LANE) || n > MOST_ITEMS) {
            return BAD;
        }
        if (n < 0) {
            return SIZE;
        }
        sheets[sheet].begin(lane, n);
        return n;
    }

    public int drop(int sheet) {
        if (!isSheet(sheet)) {
            return BAD;
        }
        Sheet row = sheets[sheet];
        if (!row.isThere) {
            return NULL;
        }
        row.isThere = false;
        return row.length;
    }

    public int item(int sheet, int lane, int i, long v) {
        if (!isSheet(sheet) || !isIn(lane, 0, LAST_LANE)) {
            return BAD;
        }
        int refused = sheets[sheet].whyNotTaken(lane, i, 1);
        if (refused != FINE) {
            return refused;
        }
        sheets[sheet].put(i, v);
        return 1;
    }

    public int copy(int from, int i, int to, int j, int n) {
        if (!isSheet(from) || !isSheet(to)) {
            return BAD;
        }
        Sheet source = sheets[from];
        Sheet target = sheets[to];
        if (!source.isThere || !target.isThere) {
            return NULL;
        }
        if (source.lane != target.lane) {
            return CAST;
        }
        if (!source.reaches(i, n) || !target.reaches(j, n)) {
            return INDEX;
        }
        System.arraycopy(source.items, i, target.items, j, n);
        return n;
    }

    private static boolean isIn(int v, int least, int most) {
        return v >= least && v <= most;
    }

    private static boolean has(int set, int member) {
        return (set >> member & 1) == 1;
    }

    private boolean isSpeaker(int speaker) {
        return isIn(speaker, 0, ford.speakers - 1);
    }

    private boolean isWord(int word) {
        return isIn(word, 0, ford.words - 1);
    }

    private static boolean isSheet(int sheet) {
        return isIn(sheet, 0, SHEETS - 1);
    }

    private int whyNotAsked(int speaker, int word) {
        if (!isSpeaker(speaker) || !isWord(word)) {
            return BAD;
        }
        if (ford.moment.fate[speaker] != WAITS) {
            return NOT;
        }
        return ford.moment.hour >= LAST_HOUR ? FULL : FINE;
    }

    /** Whether n pairs from item i on are each a WORD and 1 or 0. */
    private boolean areTold(Sheet row, int i, int n) {
        for (int k = i; k < i + 2 * n; k += 2) {
            long word = row.items[k];
            long passed = row.items[k + 1];
            if (word < 0 || word >= ford.words || passed < 0 || passed > 1) {
                return false;
            }
        }
        return true;
    }

    /** THE BOOK; it leaves out by which WORD one was asked, as no call tells that. */
    private static final class Book {
        int length;
        final int[] who = new int[BOOK_LENGTH];
        final int[] pass = new int[BOOK_LENGTH];
        final int[] fate = new int[BOOK_LENGTH];

        void becomeLike(Book other) {
            length = other.length;
            System.arraycopy(other.who, 0, who, 0, BOOK_LENGTH);
            System.arraycopy(other.pass, 0, pass, 0, BOOK_LENGTH);
            System.arraycopy(other.fate, 0, fate, 0, BOOK_LENGTH);
        }

        void enter(int speaker, int passed, int came) {
            if (length >= BOOK_LENGTH) {
                loseOldest();
            }
            who[length] = speaker;
            pass[length] = passed;
            fate[length] = came;
            length++;
        }

        private void loseOldest() {
            length = BOOK_LENGTH - 1;
            System.arraycopy(who, 1, who, 0, length);
            System.arraycopy(pass, 1, pass, 0, length);
            System.arraycopy(fate, 1, fate, 0, length);
        }
    }

    /** All that ASKED, TAUGHT and RESTED change, and so all that UNDONE brings back. */
    private static final class Moment {
        final int[] fate = new int[MOST_SPEAKERS];
        final int[] taught = new int[MOST_SPEAKERS];
        final int[] worn = new int[MOST_WORDS];
        final Book book = new Book();
        int hour;
        int draw = 1;

        void becomeLike(Moment other) {
            System.arraycopy(other.fate, 0, fate, 0, MOST_SPEAKERS);
            System.arraycopy(other.taught, 0, taught, 0, MOST_SPEAKERS);
            System.arraycopy(other.worn, 0, worn, 0, MOST_WORDS);
            book.becomeLike(other.book);
            hour = other.hour;
            draw = other.draw;
        }

        /** Draws once more: a number below a MILLION. */
        int nextDraw() {
            draw = (draw * 1103515245 + 12345) & LOWEST_31_BITS;
            return draw / 16 % MILLION;
        }

        void putAsked(int speaker, int word, int pass, int came) {
            fate[speaker] = came;
            worn[word]++;
            hour++;
            book.enter(speaker, pass, came);
        }
    }

    /** SPEAKERS, WORDS and the guard as they were told, the moment, and the moments known ahead of it. */
    private static final class Ford {
        int speakers;
        final int[] kind = new int[MOST_SPEAKERS];
        final int[] bank = new int[MOST_SPEAKERS];
        final int[] can = new int[MOST_SPEAKERS * SOUNDS];
        int words;
        final int[] sounds = new int[MOST_WORDS];
        int ear = 9;
        int tires = 4;
        final Moment moment = new Moment();
        final Moment[] past = new Moment[MOST_UNDONE];
        int known;

        Ford() {
            for (int p = 0; p < MOST_UNDONE; p++) {
                past[p] = new Moment();
            }
        }

        void becomeLike(Ford other) {
            speakers = other.speakers;
            System.arraycopy(other.kind, 0, kind, 0, MOST_SPEAKERS);
            System.arraycopy(other.bank, 0, bank, 0, MOST_SPEAKERS);
            System.arraycopy(other.can, 0, can, 0, MOST_SPEAKERS * SOUNDS);
            words = other.words;
            System.arraycopy(other.sounds, 0, sounds, 0, MOST_WORDS);
            ear = other.ear;
            tires = other.tires;
            moment.becomeLike(other.moment);
            known = other.known;
            for (int p = 0; p < known; p++) {
                past[p].becomeLike(other.past[p]);
            }
        }

        /** Takes what TONGUES told in place of all that was here; TIRES and THE DRAW stay. */
        void settle(Ford told) {
            int tiresStill = tires;
            int drawStill = moment.draw;
            becomeLike(told);
            tires = tiresStill;
            moment.draw = drawStill;
        }

        int addSpeaker(int ofKind, int ofBank) {
            int number = speakers;
            kind[number] = ofKind;
            bank[number] = ofBank;
            moment.fate[number] = WAITS;
            moment.taught[number] = 0;
            speakers++;
            return number;
        }

        int addWord(int set) {
            int number = words;
            sounds[number] = set;
            moment.worn[number] = 0;
            words++;
            return number;
        }

        /** Keeps the moment, to be UNDONE to; the oldest kept one makes room. */
        void remember() {
            if (known >= MOST_UNDONE) {
                Moment oldest = past[0];
                for (int p = 1; p < MOST_UNDONE; p++) {
                    past[p - 1] = past[p];
                }
                past[MOST_UNDONE - 1] = oldest;
                known = MOST_UNDONE - 1;
            }
            past[known].becomeLike(moment);
            known++;
        }

        void goBack() {
            known--;
            moment.becomeLike(past[known]);
        }

        int allWhoAre(int fate) {
            int set = 0;
            for (int speaker = 0; speaker < speakers; speaker++) {
                if (moment.fate[speaker] == fate) {
                    set |= 1 << speaker;
                }
            }
            return set;
        }

        /** TIRES is a divisor: guard lets it be 1 at least. */
        int hearsIn(int hour) {
            return Math.max(0, ear - hour / tires);
        }

        int skillAt(int speaker, int sound, int taught, int worn) {
            if (kind[speaker] == MUTE) {
                return 0;
            }
            int tongue = skillByKind(kind[speaker], can[speaker * SOUNDS + sound], has(taught, sound));
            return Math.min(TEN, tongue + worn / 3);
        }

        private static int skillByKind(int ofKind, int plain, boolean isTaught) {
            int apt = isTaught ? plain + 3 : plain;
            switch (ofKind) {
                case COLD:
                    return Math.max(0, plain - 2);
                case APT:
                    return apt;
                case CHILD:
                    return Math.max(5, apt);
                default:
                    return plain;
            }
        }

        int passNow(int speaker, int word) {
            return passIn(speaker, word, moment.hour);
        }

        int passIn(int speaker, int word, int hour) {
            return passIf(speaker, word, hearsIn(hour), moment.taught[speaker], moment.worn[word]);
        }

        int passIf(int speaker, int word, int hears, int taught, int worn) {
            int pass = MILLION;
            for (int sound = 0; sound < SOUNDS; sound++) {
                if (has(sounds[word], sound)) {
                    int skill = skillAt(speaker, sound, taught, worn);
                    pass = pass * (skill * hears + (TEN - skill) * (TEN - hears)) / 100;
                }
            }
            return pass;
        }
    }

    /** What is reckoned of a ford and changes nothing of it; the rows are made once and used by every call. */
    private static final class Foretold {
        final Ford ford;
        final int[] wrongInTurn = new int[MOST_SPEAKERS * MOST_SPEAKERS];
        final int[] least = new int[1 << MOST_SPEAKERS];
        final int[] passes = new int[MOST_SPEAKERS * MOST_WORDS];
        final long[] like = new long[MOST_SPEAKERS];

        Foretold(Ford ford) {
            this.ford = ford;
        }

        private int wrongOf(int speaker, int pass) {
            return ford.bank[speaker] == 0 ? MILLION - pass : pass;
        }

        int wrongsBy(int word) {
            int sum = 0;
            for (int speaker = 0; speaker < ford.speakers; speaker++) {
                if (ford.moment.fate[speaker] == WAITS) {
                    sum += wrongOf(speaker, ford.passNow(speaker, word));
                }
            }
            return sum;
        }

        int partingWord() {
            int best = 0;
            int bestWrongs = wrongsBy(0);
            for (int word = 1; word < ford.words; word++) {
                int wrongs = wrongsBy(word);
                if (wrongs < bestWrongs) {
                    best = word;
                    bestWrongs = wrongs;
                }
            }
            return best;
        }

        int passOnceTaught(int speaker, int word, int set) {
            int hears = ford.hearsIn(ford.moment.hour);
            int taught = ford.moment.taught[speaker] | set;
            return ford.passIf(speaker, word, hears, taught, ford.moment.worn[word]);
        }

        int soundsToLearn(int speaker, int word, int n) {
            int open = ford.sounds[word] & ~ford.moment.taught[speaker];
            int best = 0;
            int bestPass = passOnceTaught(speaker, word, 0);
            for (int set = 1; set <= open; set++) {
                int many = Integer.bitCount(set);
                if ((set & ~open) != 0 || many > n) {
                    continue;
                }
                int pass = passOnceTaught(speaker, word, set);
                if (pass > bestPass || pass == bestPass && many < Integer.bitCount(best)) {
                    best = set;
                    bestPass = pass;
                }
            }
            return best;
        }

        int hourToCross(int speaker, int word) {
            int now = ford.moment.hour;
            int best = now;
            int bestPass = ford.passIn(speaker, word, now);
            for (int hour = now + 1; hour < now + HOURS_AHEAD; hour++) {
                int pass = ford.passIn(speaker, word, hour);
                if (pass > bestPass) {
                    best = hour;
                    bestPass = pass;
                }
            }
            return best;
        }

        /** Fills least: for each set of those who wait, the least WRONGS, if these are the last ones of the line. */
        void weighLines(int word, int waiting) {
            int turns = Integer.bitCount(waiting);
            fillWrongInTurn(word, turns);
            least[0] = 0;
            for (int set = 1; set <= waiting; set++) {
                if ((set & ~waiting) == 0) {
                    least[set] = leastFor(set, turns - Integer.bitCount(set));
                }
            }
        }

        private void fillWrongInTurn(int word, int turns) {
            for (int turn = 0; turn < turns; turn++) {
                int hears = ford.hearsIn(ford.moment.hour + turn);
                int worn = ford.moment.worn[word] + turn;
                for (int speaker = 0; speaker < ford.speakers; speaker++) {
                    int pass = ford.passIf(speaker, word, hears, ford.moment.taught[speaker], worn);
                    wrongInTurn[turn * MOST_SPEAKERS + speaker] = wrongOf(speaker, pass);
                }
            }
        }

        private int leastFor(int set, int turn) {
            int best = MOST_SPEAKERS * MILLION;
            for (int speaker = 0; speaker < ford.speakers; speaker++) {
                if (has(set, speaker)) {
                    best = Math.min(best, wrongsIfNext(speaker, set, turn));
                }
            }
            return best;
        }

        private int wrongsIfNext(int speaker, int set, int turn) {
            return wrongInTurn[turn * MOST_SPEAKERS + speaker] + least[set & ~(1 << speaker)];
        }

        /** Once lines are weighed: who comes k-th in the first of the best ones, k less than wait. */
        int whoComesAt(int k, int waiting) {
            int set = waiting;
            int next = firstOfBest(set, 0);
            for (int turn = 1; turn <= k; turn++) {
                set &= ~(1 << next);
                next = firstOfBest(set, turn);
            }
            return next;
        }

        private int firstOfBest(int set, int turn) {
            int first = 0;
            while (first < ford.speakers - 1
                    && !(has(set, first) && wrongsIfNext(first, set, turn) == least[set])) {
                first++;
            }
            return first;
        }

        int wordsOfProof(int s) {
            fillPasses();
            for (int many = 0; many <= ford.words; many++) {
                for (int set = 0; set < 1 << ford.words; set++) {
                    if (Integer.bitCount(set) == many && isProof(set, s)) {
                        return set;
                    }
                }
            }
            return NONE;
        }

        private void fillPasses() {
            for (int speaker = 0; speaker < ford.speakers; speaker++) {
                for (int word = 0; word < ford.words; word++) {
                    passes[speaker * MOST_WORDS + word] = ford.passNow(speaker, word);
                }
            }
        }

        private boolean isProof(int set, int s) {
            for (int speaker = 0; speaker < ford.speakers; speaker++) {
                long pass = passByAll(speaker, set);
                if (ford.bank[speaker] == 0 ? pass < s : pass > MILLION - s) {
                    return false;
                }
            }
            return true;
        }

        private long passByAll(int speaker, int set) {
            long pass = MILLION;
            for (int word = 0; word < ford.words; word++) {
                if (has(set, word)) {
                    pass = pass * passes[speaker * MOST_WORDS + word] / MILLION;
                }
            }
            return pass;
        }

        private boolean isHeardWrong(int entry) {
            Book book = ford.moment.book;
            int right = ford.bank[book.who[entry]] == 0 ? OVER : DEAD;
            return book.fate[entry] != right;
        }

        int howManyHeardWrong() {
            int many = 0;
            for (int entry = 0; entry < ford.moment.book.length; entry++) {
                if (isHeardWrong(entry)) {
                    many++;
                }
            }
            return many;
        }

        int unluckiestHeardWrong() {
            Book book = ford.moment.book;
            int unluckiest = NONE;
            int leastLuck = MILLION + 1;
            for (int entry = 0; entry < book.length; entry++) {
                int luck = book.fate[entry] == OVER ? book.pass[entry] : MILLION - book.pass[entry];
                if (isHeardWrong(entry) && luck < leastLuck) {
                    unluckiest = book.who[entry];
                    leastLuck = luck;
                }
            }
            return unluckiest;
        }

        /** Fills LIKE of each SPEAKER by n pairs (a WORD, 1 or 0) that were looked at. */
        void weighLikes(Sheet row, int i, int n) {
            for (int speaker = 0; speaker < ford.speakers; speaker++) {
                like[speaker] = MILLION;
                for (int k = i; k < i + 2 * n; k += 2) {
                    int pass = ford.passNow(speaker, (int) row.items[k]);
                    int part = row.items[k + 1] == 1 ? pass : MILLION - pass;
                    like[speaker] = like[speaker] * part / MILLION;
                }
            }
        }

        int likeliest() {
            int best = NONE;
            for (int speaker = 0; speaker < ford.speakers; speaker++) {
                if (best == NONE || like[speaker] > like[best]) {
                    best = speaker;
                }
            }
            return best;
        }

        int partFor(int one) {
            long sum = 0;
            for (int speaker = 0; speaker < ford.speakers; speaker++) {
                sum += like[speaker];
            }
            return sum == 0 ? 0 : (int) (like[one] * MILLION / sum);
        }
    }

    /** THE TAPE, read as TONGUES into a ford of its own, so that a FAULT leaves the real one alone. */
    private static final class Tape {
        private static final char END = 0;

        final char[] letters = new char[TAPE_LENGTH];
        int length;
        int place;
        final Ford read = new Ford();

        /** If not so, place is that of the first letter that can't stand there. */
        boolean isTongues() {
            place = 0;
            read.speakers = 0;
            read.words = 0;
            read.ear = take("0123456789", 0);
            return read.ear >= 0 && take(";", 0) >= 0 && takeSpeakers() && takeWords();
        }

        private boolean takeSpeakers() {
            if (!takeSpeaker()) {
                return false;
            }
            for (int many = 1; many < MOST_SPEAKERS && take(",", 0) >= 0; many++) {
                if (!takeSpeaker()) {
                    return false;
                }
            }
            return take(";", 0) >= 0;
        }

        private boolean takeSpeaker() {
            int kind = take("pctmh", 0);
            if (kind < 0) {
                return false;
            }
            int bank = take("01", 0);
            if (bank < 0) {
                return false;
            }
            int number = read.addSpeaker(kind, bank);
            for (int sound = 0; sound < SOUNDS; sound++) {
                int v = take("0123456789", 0);
                if (v < 0) {
                    return false;
                }
                read.can[number * SOUNDS + sound] = v;
            }
            return true;
        }

        private boolean takeWords() {
            if (!takeWord()) {
                return false;
            }
            for (int many = 1; many < MOST_WORDS && take(",", 0) >= 0; many++) {
                if (!takeWord()) {
                    return false;
                }
            }
            return nextLetter() == END;
        }

        private boolean takeWord() {
            int set = 0;
            int sound = take("abcdef", 0);
            for (int many = 0; many < SOUNDS && sound >= 0; many++) {
                set |= 1 << sound;
                sound = take("abcdef", sound + 1);
            }
            if (set == 0) {
                return false;
            }
            read.addWord(set);
            return true;
        }

        /** Goes past the next letter, if it is one of these from a place on: which one; else NONE. */
        private int take(String these, int from) {
            int which = these.indexOf(nextLetter());
            if (which < from) {
                return NONE;
            }
            place++;
            return which;
        }

        private char nextLetter() {
            while (place < length && letters[place] == ' ') {
                place++;
            }
            return place < length ? letters[place] : END;
        }
    }

    /** A row of a LANE, or nothing; its items are held as longs, each cut to what the LANE holds. */
    private static final class Sheet {
        boolean isThere;
        int lane;
        int length;
        final long[] items = new long[MOST_ITEMS];

        void begin(int ofLane, int n) {
            isThere = true;
            lane = ofLane;
            length = n;
            for (int i = 0; i < MOST_ITEMS; i++) {
                items[i] = 0;
            }
        }

        /** What a call that takes n items from i on, as of a LANE, is refused with; else FINE. */
        int whyNotTaken(int asLane, int i, int n) {
            if (!isThere) {
                return NULL;
            }
            if (lane != asLane) {
                return CAST;
            }
            return reaches(i, n) ? FINE : INDEX;
        }

        /** i and n may be any numbers, so their sum is not made: it could wrap around. */
        boolean reaches(int i, int n) {
            return i >= 0 && n >= 0 && n <= length && i <= length - n;
        }

        void put(int i, long v) {
            switch (lane) {
                case 0:
                    items[i] = (byte) v;
                    break;
                case 1:
                    items[i] = (short) v;
                    break;
                case 2:
                    items[i] = (int) v;
                    break;
                default:
                    items[i] = v;
                    break;
            }
        }
    }
}
