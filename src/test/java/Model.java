import java.util.ArrayDeque;
import java.util.ArrayList;
import java.util.Deque;
import java.util.List;

/**
 * The document once more, in its own plain way (lists, copies of everything, all orders and all sets tried
 * out), to be compared with FordWord call by call. It shares no code and no short cut with it.
 */
final class Model {
    static final int BAD = -1, NOT = -2, FULL = -3, NONE = -4, NULL = -11, CAST = -12, INDEX = -13, SIZE = -14;
    static final long M = 1000000;

    static final class Man {
        int kind, bank, fate;
        int[] can = new int[6];
        boolean[] taught = new boolean[6];

        Man twin() {
            Man m = new Man();
            m.kind = kind;
            m.bank = bank;
            m.fate = fate;
            m.can = can.clone();
            m.taught = taught.clone();
            return m;
        }
    }

    record Entry(int man, int word, long pass, boolean over) { }

    static final class Saying {
        final int set;
        int worn;

        Saying(int set) {
            this.set = set;
        }
    }

    static final class World {
        List<Man> men = new ArrayList<>();
        List<Saying> sayings = new ArrayList<>();
        int ear = 9, tires = 4, hour = 0;
        long draw = 1;
        List<Entry> book = new ArrayList<>();
        Deque<World> past = new ArrayDeque<>();

        World twin(boolean withPast) {
            World w = new World();
            for (Man m : men) w.men.add(m.twin());
            for (Saying s : sayings) {
                Saying t = new Saying(s.set);
                t.worn = s.worn;
                w.sayings.add(t);
            }
            w.ear = ear;
            w.tires = tires;
            w.hour = hour;
            w.draw = draw;
            w.book = new ArrayList<>(book);
            if (withPast) for (World p : past) w.past.addLast(p.twin(false));
            return w;
        }
    }

    World w = new World();
    World kept;
    String tape = "";
    final Object[] sheets = new Object[4];

    // ---- reckoning

    private boolean man(int s) {
        return 0 <= s && s < w.men.size();
    }

    private boolean saying(int s) {
        return 0 <= s && s < w.sayings.size();
    }

    private int hears(int hour) {
        int h = w.ear - hour / w.tires;
        return h < 0 ? 0 : h;
    }

    private static int byKind(Man m, int sound) {
        int plain = m.can[sound];
        if (m.kind == 0) return plain;
        if (m.kind == 1) return plain < 2 ? 0 : plain - 2;
        int apt = m.taught[sound] ? plain + 3 : plain;
        if (m.kind == 2) return apt;
        return apt < 5 ? 5 : apt;
    }

    private static int skillOf(Man m, int sound, int worn) {
        if (m.kind == 3) return 0;
        int s = byKind(m, sound) + worn / 3;
        return s > 10 ? 10 : s;
    }

    private long passOf(Man m, int set, int worn, int hour) {
        long p = M;
        int h = hears(hour);
        for (int sound = 0; sound < 6; sound++) {
            if ((set & (1 << sound)) == 0) continue;
            int s = skillOf(m, sound, worn);
            p = p * (s * h + (10 - s) * (10 - h)) / 100;
        }
        return p;
    }

    private long passNow(int s, int v) {
        return passOf(w.men.get(s), w.sayings.get(v).set, w.sayings.get(v).worn, w.hour);
    }

    private static long wrong(Man m, long pass) {
        return m.bank == 0 ? M - pass : pass;
    }

    private static int setOf(boolean[] bits) {
        int set = 0;
        for (int k = 0; k < bits.length; k++) if (bits[k]) set += 1 << k;
        return set;
    }

    private void keepPast() {
        w.past.addLast(w.twin(false));
        if (w.past.size() > 8) w.past.removeFirst();
    }

    // ---- the calls

    int speaker(int kind, int bank, int v) {
        if (kind < 0 || kind > 4 || bank < 0 || bank > 1 || v < 0 || v > 9) return BAD;
        if (w.men.size() == 6) return FULL;
        Man m = new Man();
        m.kind = kind;
        m.bank = bank;
        java.util.Arrays.fill(m.can, v);
        w.men.add(m);
        w.past.clear();
        return w.men.size() - 1;
    }

    int can(int s, int sound, int v) {
        if (!man(s) || sound < 0 || sound > 5 || v < 0 || v > 9) return BAD;
        int was = w.men.get(s).can[sound];
        w.men.get(s).can[sound] = v;
        return was;
    }

    int word(int set) {
        if (set < 1 || set > 63) return BAD;
        if (w.sayings.size() == 6) return FULL;
        w.sayings.add(new Saying(set));
        w.past.clear();
        return w.sayings.size() - 1;
    }

    int guard(int what, int v) {
        if (what < 0 || what > 1) return BAD;
        if (what == 0 ? v < 0 || v > 10 : v < 1 || v > 24) return BAD;
        int was = what == 0 ? w.ear : w.tires;
        if (what == 0) w.ear = v;
        else w.tires = v;
        return was;
    }

    int of(int s, int what) {
        if (!man(s) || what < 0 || what > 3) return BAD;
        Man m = w.men.get(s);
        return new int[] {m.kind, m.bank, m.fate, setOf(m.taught)}[what];
    }

    int skill(int s, int v, int sound) {
        if (!man(s) || !saying(v) || sound < 0 || sound > 5) return BAD;
        return skillOf(w.men.get(s), sound, w.sayings.get(v).worn);
    }

    int type(int letter) {
        if (letter < 32 || letter > 126) return BAD;
        if (tape.length() == 90) return FULL;
        tape += (char) letter;
        return tape.length();
    }

    /** By states of the text: what may stand behind what was read so far, letter by letter. */
    int tongues() {
        String text = tape;
        tape = "";
        World fresh = new World();
        Man m = null;
        int set = 0, digits = 0;
        String state = "ear";
        for (int at = 0; at < text.length(); at++) {
            char c = text.charAt(at);
            if (c == ' ') continue;
            int fault = -20 - at;
            boolean digit = c >= '0' && c <= '9';
            switch (state) {
                case "ear" -> {
                    if (!digit) return fault;
                    fresh.ear = c - '0';
                    state = "semicolon";
                }
                case "semicolon" -> {
                    if (c != ';') return fault;
                    state = "kind";
                }
                case "kind" -> {
                    m = new Man();
                    m.kind = "pctmh".indexOf(c);
                    if (m.kind < 0) return fault;
                    state = "bank";
                }
                case "bank" -> {
                    if (c != '0' && c != '1') return fault;
                    m.bank = c - '0';
                    digits = 0;
                    state = "digits";
                }
                case "digits" -> {
                    if (!digit) return fault;
                    m.can[digits++] = c - '0';
                    if (digits == 6) {
                        fresh.men.add(m);
                        state = "behind a speaker";
                    }
                }
                case "behind a speaker" -> {
                    if (c == ';') {
                        state = "word";
                        set = 0;
                    } else if (c == ',' && fresh.men.size() < 6) {
                        state = "kind";
                    } else {
                        return fault;
                    }
                }
                default -> {
                    if (c >= 'a' && c <= 'f' && set < 1 << (c - 'a')) {
                        set |= 1 << (c - 'a');
                        state = "in a word";
                    } else if (c == ',' && state.equals("in a word") && fresh.sayings.size() < 5) {
                        fresh.sayings.add(new Saying(set));
                        set = 0;
                        state = "word";
                    } else {
                        return fault;
                    }
                }
            }
        }
        if (!state.equals("in a word")) return -20 - text.length();
        fresh.sayings.add(new Saying(set));
        fresh.tires = w.tires;
        fresh.draw = w.draw;
        w = fresh;
        return w.men.size();
    }

    int count(int what) {
        switch (what) {
            case 0: return w.men.size();
            case 1: return w.sayings.size();
            case 2: return w.ear;
            case 3: return w.tires;
            case 4: return w.hour;
            case 5: return hears(w.hour);
            case 6: case 7: case 8: {
                int set = 0;
                for (int s = 0; s < w.men.size(); s++) if (w.men.get(s).fate == what - 6) set += 1 << s;
                return set;
            }
            case 9: return w.book.size();
            case 10: return w.past.size();
            default: return BAD;
        }
    }

    int worn(int v, int what) {
        if (!saying(v) || what < 0 || what > 1) return BAD;
        return what == 0 ? w.sayings.get(v).set : w.sayings.get(v).worn;
    }

    private int mayAsk(int s, int v) {
        if (!man(s) || !saying(v)) return BAD;
        if (w.men.get(s).fate != 0) return NOT;
        return w.hour == 9999 ? FULL : 0;
    }

    private void asked(int s, int v, long pass, boolean over) {
        w.men.get(s).fate = over ? 1 : 2;
        w.sayings.get(v).worn++;
        w.hour++;
        w.book.add(new Entry(s, v, pass, over));
        if (w.book.size() > 12) w.book.remove(0);
    }

    int ask(int s, int v) {
        int no = mayAsk(s, v);
        if (no != 0) return no;
        long pass = passNow(s, v);
        keepPast();
        w.draw = (w.draw * 1103515245L + 12345L) % (1L << 31);
        boolean over = w.draw / 16 % M < pass;
        asked(s, v, pass, over);
        return over ? 1 : 0;
    }

    int said(int s, int v, int is) {
        if (is != 0 && is != 1) return BAD;
        int no = mayAsk(s, v);
        if (no != 0) return no;
        long pass = passNow(s, v);
        keepPast();
        asked(s, v, pass, is == 1);
        return (int) pass;
    }

    int teach(int s, int sound) {
        if (!man(s) || sound < 0 || sound > 5) return BAD;
        if (w.men.get(s).taught[sound] || w.men.get(s).fate != 0) return NOT;
        if (w.hour == 9999) return FULL;
        keepPast();
        w.men.get(s).taught[sound] = true;
        w.hour++;
        return setOf(w.men.get(s).taught);
    }

    int rest() {
        keepPast();
        int was = w.hour;
        w.hour = 0;
        return was;
    }

    int undo() {
        if (w.past.isEmpty()) return NONE;
        World back = w.past.removeLast();
        for (int s = 0; s < w.men.size(); s++) {
            w.men.get(s).fate = back.men.get(s).fate;
            w.men.get(s).taught = back.men.get(s).taught.clone();
        }
        for (int v = 0; v < w.sayings.size(); v++) w.sayings.get(v).worn = back.sayings.get(v).worn;
        w.hour = back.hour;
        w.book = new ArrayList<>(back.book);
        w.draw = back.draw;
        return w.past.size();
    }

    int seed(int v) {
        if (v < 0) return BAD;
        long was = w.draw;
        w.draw = v;
        return (int) was;
    }

    int pass(int s, int v, int hour) {
        if (!man(s) || !saying(v) || hour != NONE && (hour < 0 || hour > 9999)) return BAD;
        return (int) passOf(w.men.get(s), w.sayings.get(v).set, w.sayings.get(v).worn, hour == NONE ? w.hour : hour);
    }

    int wrongs(int v) {
        if (!saying(v)) return BAD;
        long sum = 0;
        for (int s = 0; s < w.men.size(); s++) {
            if (w.men.get(s).fate == 0) sum += wrong(w.men.get(s), passNow(s, v));
        }
        return (int) sum;
    }

    int parting(int what) {
        if (what != 0 && what != 1) return BAD;
        int best = NONE, much = NONE;
        for (int v = w.sayings.size() - 1; v >= 0; v--) {
            if (best == NONE || wrongs(v) <= much) {
                best = v;
                much = wrongs(v);
            }
        }
        return what == 0 ? best : much;
    }

    int learn(int s, int v, int n, int what) {
        if (!man(s) || !saying(v) || n < 0 || n > 6 || what < 0 || what > 1) return BAD;
        int best = -1;
        long much = -1;
        for (int size = 0; size <= n; size++) {
            for (int set = 0; set < 64; set++) {
                Man m = w.men.get(s).twin();
                if (Integer.bitCount(set) != size || (set | w.sayings.get(v).set) != w.sayings.get(v).set) continue;
                if ((set & setOf(m.taught)) != 0) continue;
                for (int sound = 0; sound < 6; sound++) if ((set >> sound) % 2 == 1) m.taught[sound] = true;
                long p = passOf(m, w.sayings.get(v).set, w.sayings.get(v).worn, w.hour);
                if (p > much) {
                    much = p;
                    best = set;
                }
            }
        }
        return what == 0 ? best : (int) much;
    }

    int cross(int s, int v, int what) {
        if (!man(s) || !saying(v) || what < 0 || what > 1) return BAD;
        int best = -1;
        long much = -1;
        for (int t = 23; t >= 0; t--) {
            long p = passOf(w.men.get(s), w.sayings.get(v).set, w.sayings.get(v).worn, w.hour + t);
            if (p >= much) {
                much = p;
                best = w.hour + t;
            }
        }
        return what == 0 ? best : (int) much;
    }

    private List<Integer> bestLine;
    private long bestLineWrongs;

    private void tryLines(int v, List<Integer> line, List<Integer> left, long wrongs) {
        if (left.isEmpty()) {
            if (bestLine == null || wrongs < bestLineWrongs) {
                bestLine = new ArrayList<>(line);
                bestLineWrongs = wrongs;
            }
            return;
        }
        for (int s : left) {
            int turn = line.size();
            Man m = w.men.get(s);
            long p = passOf(m, w.sayings.get(v).set, w.sayings.get(v).worn + turn, w.hour + turn);
            List<Integer> rest = new ArrayList<>(left);
            rest.remove((Integer) s);
            line.add(s);
            tryLines(v, line, rest, wrongs + wrong(m, p));
            line.remove(line.size() - 1);
        }
    }

    int line(int v, int k) {
        if (!saying(v) || k < -1) return BAD;
        List<Integer> waiting = new ArrayList<>();
        for (int s = 0; s < w.men.size(); s++) if (w.men.get(s).fate == 0) waiting.add(s);
        bestLine = null;
        tryLines(v, new ArrayList<>(), waiting, 0);
        if (k == -1) return (int) bestLineWrongs;
        return k < bestLine.size() ? bestLine.get(k) : NONE;
    }

    int proof(int s) {
        if (s < 0 || s > M) return BAD;
        int best = NONE;
        for (int set = (1 << w.sayings.size()) - 1; set >= 0; set--) {
            boolean fits = true;
            for (int q = 0; q < w.men.size(); q++) {
                long p = M;
                for (int v = 0; v < w.sayings.size(); v++) if ((set >> v) % 2 == 1) p = p * passNow(q, v) / M;
                fits &= w.men.get(q).bank == 0 ? p >= s : p <= M - s;
            }
            if (fits && (best == NONE || Integer.bitCount(set) <= Integer.bitCount(best))) best = set;
        }
        return best;
    }

    int heardWrong(int what) {
        if (what != 0 && what != 1) return BAD;
        int many = 0, who = NONE;
        long luck = 0;
        for (Entry e : w.book) {
            if (e.over() != (w.men.get(e.man()).bank == 1)) continue;
            many++;
            long l = e.over() ? e.pass() : M - e.pass();
            if (who == NONE || l < luck) {
                who = e.man();
                luck = l;
            }
        }
        return what == 0 ? many : who;
    }

    int image() {
        kept = w.twin(true);
        return 1;
    }

    int restore() {
        if (kept == null) return NONE;
        w = kept.twin(true);
        return 1;
    }

    // ---- sheets: real rows, as the document's LANES are

    private static int laneOf(Object row) {
        return row instanceof byte[] ? 0 : row instanceof short[] ? 1 : row instanceof int[] ? 2 : 3;
    }

    private static int sizeOf(Object row) {
        return java.lang.reflect.Array.getLength(row);
    }

    private int taken(int sheet, int lane, long i, long n) {
        if (sheets[sheet] == null) return NULL;
        if (laneOf(sheets[sheet]) != lane) return CAST;
        return i < 0 || i + n > sizeOf(sheets[sheet]) ? INDEX : 0;
    }

    private void put(int sheet, int i, long v) {
        Object row = sheets[sheet];
        if (row instanceof byte[] b) b[i] = (byte) v;
        if (row instanceof short[] b) b[i] = (short) v;
        if (row instanceof int[] b) b[i] = (int) v;
        if (row instanceof long[] b) b[i] = v;
    }

    private static boolean four(int v) {
        return v >= 0 && v <= 3;
    }

    int who(int sheet, int lane, int i, int n, int s) {
        if (!four(sheet) || !four(lane) || n < 1 || n > 8 || s != NONE && !man(s)) return BAD;
        int no = taken(sheet, lane, i, 2L * n);
        if (no != 0) return no;
        for (int k = 0; k < 2 * n; k++) {
            long v = java.lang.reflect.Array.getLong(sheets[sheet], i + k);
            if (v < 0 || v >= (k % 2 == 0 ? w.sayings.size() : 2)) return NOT;
        }
        long sum = 0;
        long[] like = new long[w.men.size()];
        int best = NONE;
        for (int q = 0; q < like.length; q++) {
            like[q] = M;
            for (int k = 0; k < n; k++) {
                long p = passNow(q, (int) java.lang.reflect.Array.getLong(sheets[sheet], i + 2 * k));
                boolean passed = java.lang.reflect.Array.getLong(sheets[sheet], i + 2 * k + 1) == 1;
                like[q] = like[q] * (passed ? p : M - p) / M;
            }
            sum += like[q];
            if (best == NONE || like[q] > like[best]) best = q;
        }
        if (s == NONE) return best;
        return sum == 0 ? 0 : (int) (like[s] * M / sum);
    }

    int film(int s, int v, int n, int sheet, int lane, int i) {
        if (!man(s) || !saying(v) || n < 1 || n > 24 || !four(sheet) || !four(lane)) return BAD;
        int no = taken(sheet, lane, i, n);
        if (no != 0) return no;
        for (int t = 0; t < n; t++) {
            put(sheet, i + t, passOf(w.men.get(s), w.sayings.get(v).set, w.sayings.get(v).worn, w.hour + t));
        }
        return n;
    }

    int sheet(int sheet, int lane, int n) {
        if (!four(sheet) || !four(lane) || n > 24) return BAD;
        if (n < 0) return SIZE;
        sheets[sheet] = lane == 0 ? new byte[n] : lane == 1 ? new short[n] : lane == 2 ? new int[n] : new long[n];
        return n;
    }

    int drop(int sheet) {
        if (!four(sheet)) return BAD;
        if (sheets[sheet] == null) return NULL;
        int had = sizeOf(sheets[sheet]);
        sheets[sheet] = null;
        return had;
    }

    int item(int sheet, int lane, int i, long v) {
        if (!four(sheet) || !four(lane)) return BAD;
        int no = taken(sheet, lane, i, 1);
        if (no != 0) return no;
        put(sheet, i, v);
        return 1;
    }

    int copy(int from, int i, int to, int j, int n) {
        if (!four(from) || !four(to)) return BAD;
        if (sheets[from] == null || sheets[to] == null) return NULL;
        if (laneOf(sheets[from]) != laneOf(sheets[to])) return CAST;
        try {
            System.arraycopy(sheets[from], i, sheets[to], j, n);
        } catch (IndexOutOfBoundsException e) {
            return INDEX;
        }
        return n;
    }
}
