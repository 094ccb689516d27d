import java.util.ArrayDeque;
import java.util.ArrayList;
import java.util.Arrays;
import java.util.Deque;
import java.util.HashMap;
import java.util.HashSet;
import java.util.List;
import java.util.Map;
import java.util.Set;
import java.util.TreeSet;
import java.util.function.IntPredicate;

/**
 * The document once more, in its plainest form and with all of the Java library: MINUTE by MINUTE, set by set.
 * It is slow and shares no way of working with ForgiveCamp, so that both are wrong alike only where both read
 * the document wrongly.
 */
public final class Oracle {
    private static final class Fault extends RuntimeException {
        final int kind;
        final int place;

        Fault(int kind, int place) {
            super(null, null, false, false);
            this.kind = kind;
            this.place = place;
        }
    }

    private static final class No extends RuntimeException {
        final int status;

        No(int status) {
            super(null, null, false, false);
            this.status = status;
        }
    }

    private static final class Boy {
        String name;
        int cell, pride, soft, ears, yields;

        Boy copy() {
            Boy b = new Boy();
            b.name = name;
            b.cell = cell;
            b.pride = pride;
            b.soft = soft;
            b.ears = ears;
            b.yields = yields;
            return b;
        }
    }

    private static final class Quarrel {
        int one, other, grudge;
        boolean oneYielded, otherYielded, struckDown;

        boolean open() {
            return !oneYielded && !otherYielded && !struckDown;
        }

        boolean has(int b) {
            return one == b || other == b;
        }

        Quarrel copy() {
            Quarrel q = new Quarrel();
            q.one = one;
            q.other = other;
            q.grudge = grudge;
            q.oneYielded = oneYielded;
            q.otherYielded = otherYielded;
            q.struckDown = struckDown;
            return q;
        }
    }

    private static final class State {
        int wide = 4, high = 3, odds = 4, minute = 0;
        List<Boy> boys = new ArrayList<>();
        List<Quarrel> quarrels = new ArrayList<>();

        State copy() {
            State s = new State();
            s.wide = wide;
            s.high = high;
            s.odds = odds;
            s.minute = minute;
            for (Boy b : boys) s.boys.add(b.copy());
            for (Quarrel q : quarrels) s.quarrels.add(q.copy());
            return s;
        }

        boolean up(int b) {
            return quarrels.stream().noneMatch(q -> q.open() && q.has(b));
        }

        int far(int a, int b) {
            // Steps by breadth first, from CELL to CELL with a side in common.
            int from = boys.get(a).cell, to = boys.get(b).cell;
            int[] steps = new int[wide * high];
            Arrays.fill(steps, -1);
            Deque<Integer> queue = new ArrayDeque<>();
            queue.add(from);
            steps[from] = 0;
            while (!queue.isEmpty()) {
                int c = queue.poll();
                int x = c % wide, y = c / wide;
                int[][] next = {{x - 1, y}, {x + 1, y}, {x, y - 1}, {x, y + 1}};
                for (int[] n : next) {
                    if (n[0] < 0 || n[0] >= wide || n[1] < 0 || n[1] >= high) continue;
                    int d = n[1] * wide + n[0];
                    if (steps[d] < 0) {
                        steps[d] = steps[c] + 1;
                        queue.add(d);
                    }
                }
            }
            return steps[to];
        }

        boolean hears(int b, int other) {
            return b != other && up(other) && far(b, other) <= boys.get(b).ears;
        }

        int due(int b, Quarrel q) {
            int heard = 0;
            for (int o = 0; o < boys.size(); o++) if (hears(b, o)) heard++;
            return q.grudge + boys.get(b).pride - boys.get(b).soft * heard;
        }

        List<Integer> goBy() {
            List<Runnable> all = new ArrayList<>();
            Set<Integer> who = new TreeSet<>();
            for (Quarrel q : quarrels) {
                if (!q.open()) continue;
                if (minute >= due(q.one, q)) {
                    who.add(q.one);
                    all.add(() -> { q.oneYielded = true; boys.get(q.one).yields++; });
                }
                if (minute >= due(q.other, q)) {
                    who.add(q.other);
                    all.add(() -> { q.otherYielded = true; boys.get(q.other).yields++; });
                }
            }
            all.forEach(Runnable::run);
            minute++;
            return new ArrayList<>(who);
        }

        int open() {
            return (int) quarrels.stream().filter(Quarrel::open).count();
        }

        int yield(int b) {
            int n = 0;
            for (Quarrel q : quarrels) {
                if (q.open() && q.has(b)) {
                    if (q.one == b) q.oneYielded = true; else q.otherYielded = true;
                    boys.get(b).yields++;
                    n++;
                }
            }
            return n;
        }

        int dawn() {
            int before = quarrels.size();
            quarrels.removeIf(q -> !q.open());
            minute = 0;
            return before - quarrels.size();
        }

        int breakfast() {
            State s = copy();
            int n = 0;
            while (s.open() > 0) {
                s.goBy();
                n++;
            }
            return n;
        }

        int upIn(int b) {
            State s = copy();
            int n = 0;
            while (!s.up(b)) {
                s.goBy();
                n++;
            }
            return n;
        }

        int set(IntPredicate in, int n) {
            int m = 0;
            for (int i = 0; i < n; i++) if (in.test(i)) m += 1 << i;
            return m;
        }
    }

    /** A STEP of WEEKS. */
    private static final class Step {
        String word;
        int a, b, c;
        String test;
        List<Step> inner = new ArrayList<>();
    }

    private record Token(char kind, String text, int at) { }

    private static final Set<String> RESERVED = new HashSet<>(Arrays.asList("field", "by", "odds", "boy", "at", "pride",
        "soft", "ears", "quarrel", "grudge", "minute", "dawn", "yield", "pitch", "any", "when", "up", "open", "now",
        "loop", "end", "stop"));

    /** TOKENS of a text: w, n, s, ? (no token) and e (the end). */
    private static final class Tokens {
        final List<Token> all = new ArrayList<>();
        int i = 0;

        Tokens(byte[] bytes) {
            String t = new String(bytes, java.nio.charset.StandardCharsets.ISO_8859_1);
            int p = 0;
            while (p < t.length()) {
                java.util.regex.Matcher m = java.util.regex.Pattern.compile("([\\n ]+)|([a-z]+)|([0-9]+)|([;<>=])").matcher(t);
                m.region(p, t.length());
                if (!m.lookingAt()) {
                    all.add(new Token('?', "", p));
                    p++;
                    continue;
                }
                if (m.group(2) != null) all.add(new Token('w', m.group(2), p));
                if (m.group(3) != null) all.add(new Token(m.group(3).length() > 4 ? '?' : 'n', m.group(3), p));
                if (m.group(4) != null) all.add(new Token('s', m.group(4), p));
                p = m.end();
            }
            all.add(new Token('e', "", t.length()));
        }

        Token look() {
            Token t = all.get(i);
            if (t.kind == '?') throw new Fault(1, t.at);
            return t;
        }

        boolean end() {
            return look().kind == 'e';
        }

        Fault bad(int kind) {
            return new Fault(kind, look().at);
        }

        boolean is(String text) {
            return look().kind != 'e' && look().text.equals(text);
        }

        void must(String text) {
            if (!is(text)) throw bad(2);
            i++;
        }

        int number(int low, int high) {
            if (look().kind != 'n') throw bad(2);
            int v = Integer.parseInt(look().text);
            if (v < low || v > high) throw bad(4);
            i++;
            return v;
        }

        /** The NAME here, not stepped over. */
        String name() {
            Token t = look();
            if (t.kind != 'w' || t.text.length() > 8 || RESERVED.contains(t.text)) throw bad(2);
            return t.text;
        }

        int known(State s) {
            String n = name();
            for (int b = 0; b < s.boys.size(); b++) if (n.equals(s.boys.get(b).name)) return b;
            throw bad(3);
        }
    }

    private State state = new State();
    private List<Step> weeks = null;
    private int weeksSteps = 0;
    private final Deque<Object[]> marks = new ArrayDeque<>();
    private final long[][] trays = new long[4][];
    private final int[] sorts = new int[4];
    private byte[] tape = new byte[0];
    private int status = 0;
    private long top = 0, bottom = 1;
    private int fault = -1, faultAt = -1;
    private int[] lived = null;

    public int status() { return status; }
    public long top() { return top; }
    public long bottom() { return bottom; }

    private interface Answer { long get(); }

    private long answer(Answer a, long none) {
        try {
            long v = a.get();
            status = 0;
            return v;
        } catch (No n) {
            status = n.status;
            return none;
        }
    }

    private int num(Answer a) { return (int) answer(a, -1); }
    private boolean yes(Runnable r) { return answer(() -> { r.run(); return 1; }, 0) == 1; }
    private static void need(boolean ok, int status) { if (!ok) throw new No(status); }
    private static boolean in(long v, long low, long high) { return v >= low && v <= high; }
    private void isBoy(int b) { need(in(b, 0, state.boys.size() - 1), 1); }
    private void isQuarrel(int q) { need(in(q, 0, state.quarrels.size() - 1), 1); }
    private void isCell(int c) { need(in(c, 0, state.wide * state.high - 1), 1); }

    private void fraction(long a, long b) {
        long d = java.math.BigInteger.valueOf(a).gcd(java.math.BigInteger.valueOf(b)).longValue();
        top = a / d;
        bottom = b / d;
    }

    public boolean tray(int tray, int sort, int many) {
        return yes(() -> {
            need(in(tray, 0, 3) && in(sort, 0, 3) && in(many, 0, 60), 1);
            trays[tray] = new long[many];
            sorts[tray] = sort;
        });
    }

    private void there(int tray) {
        need(in(tray, 0, 3), 1);
        need(trays[tray] != null, 2);
    }

    private long cut(long v, int sort) {
        int bits = 8 << sort;
        return v << (64 - bits) >> (64 - bits);
    }

    public boolean write(int tray, int place, long v) {
        return yes(() -> {
            there(tray);
            need(in(place, 0, trays[tray].length - 1), 3);
            trays[tray][place] = cut(v, sorts[tray]);
        });
    }

    public long read(int tray, int place) {
        return answer(() -> {
            there(tray);
            need(in(place, 0, trays[tray].length - 1), 3);
            return trays[tray][place];
        }, -1);
    }

    public boolean pour(int from, int place, int to, int at, int many) {
        return yes(() -> {
            need(in(from, 0, 3) && in(to, 0, 3) && place >= 0 && at >= 0 && many >= 0, 1);
            need(trays[from] != null && trays[to] != null, 2);
            need(sorts[from] == sorts[to], 8);
            need((long) place + many <= trays[from].length && (long) at + many <= trays[to].length, 3);
            long[] old = trays[from].clone();
            for (int i = 0; i < many; i++) trays[to][at + i] = old[place + i];
        });
    }

    public int feed(int a, int b, int c, int d, int e) {
        if (tape.length > 880) return -1;
        java.nio.ByteBuffer more = java.nio.ByteBuffer.allocate(tape.length + 20);
        more.put(tape).putInt(a).putInt(b).putInt(c).putInt(d).putInt(e);
        tape = more.array();
        return tape.length;
    }

    private byte[] tear(int n, int most) {
        need(n >= 0 && n <= tape.length && n <= most, 1);
        byte[] text = Arrays.copyOf(tape, n);
        tape = new byte[0];
        fault = 0;
        faultAt = -1;
        return text;
    }

    private No faulty(Fault f) {
        fault = f.kind;
        faultAt = f.place;
        return new No(9);
    }

    public int camp(int n) {
        return num(() -> {
            byte[] text = tear(n, 900);
            try {
                state = parseCamp(new Tokens(text));
            } catch (Fault f) {
                throw faulty(f);
            }
            weeks = null;
            return state.boys.size();
        });
    }

    private static State parseCamp(Tokens t) {
        State s = new State();
        boolean field = false, odds = false;
        while (!t.end()) {
            if (t.is("field")) {
                if (field || !s.boys.isEmpty()) throw t.bad(5);
                field = true;
                t.i++;
                s.wide = t.number(1, 6);
                t.must("by");
                s.high = t.number(1, 6);
            } else if (t.is("odds")) {
                if (odds) throw t.bad(5);
                odds = true;
                t.i++;
                s.odds = t.number(0, 16);
            } else if (t.is("boy")) {
                if (s.boys.size() == 8) throw t.bad(6);
                t.i++;
                Boy b = new Boy();
                b.name = t.name();
                if (s.boys.stream().anyMatch(o -> o.name.equals(b.name))) throw t.bad(3);
                t.i++;
                t.must("at");
                b.cell = t.number(0, s.wide * s.high - 1);
                t.must("pride");
                b.pride = t.number(1, 30);
                b.soft = 1;
                b.ears = 2;
                if (t.is("soft")) {
                    t.i++;
                    b.soft = t.number(0, 9);
                }
                if (t.is("ears")) {
                    t.i++;
                    b.ears = t.number(0, 9);
                }
                s.boys.add(b);
            } else if (t.is("quarrel")) {
                if (s.quarrels.size() == 10) throw t.bad(6);
                t.i++;
                Quarrel q = new Quarrel();
                q.one = t.known(s);
                t.i++;
                q.other = t.known(s);
                if (q.one == q.other) throw t.bad(5);
                t.i++;
                t.must("grudge");
                q.grudge = t.number(0, 99);
                s.quarrels.add(q);
            } else {
                throw t.bad(2);
            }
            t.must(";");
        }
        return s;
    }

    public int weeks(int n) {
        return num(() -> {
            byte[] text = tear(n, 300);
            int[] steps = {0};
            try {
                Tokens t = new Tokens(text);
                List<Step> w = parseSteps(t, 0, steps);
                if (!t.end()) throw t.bad(2);
                weeks = w;
            } catch (Fault f) {
                throw faulty(f);
            }
            weeksSteps = steps[0];
            return weeksSteps;
        });
    }

    private List<Step> parseSteps(Tokens t, int within, int[] steps) {
        List<Step> list = new ArrayList<>();
        List<String> words = Arrays.asList("minute", "dawn", "quarrel", "yield", "pitch", "any", "when", "loop", "stop");
        while (!t.end() && !t.is("end")) {
            Step s = new Step();
            s.word = t.look().text;
            if (!words.contains(s.word)) throw t.bad(2);
            if (steps[0] == 30) throw t.bad(6);
            boolean block = s.word.equals("when") || s.word.equals("loop");
            if (block && within == 3) throw t.bad(7);
            steps[0]++;
            t.i++;
            parseRest(t, s);
            t.must(";");
            if (block) {
                s.inner = parseSteps(t, within + 1, steps);
                t.must("end");
                t.must(";");
            }
            list.add(s);
        }
        return list;
    }

    private void parseRest(Tokens t, Step s) {
        switch (s.word) {
            case "minute" -> s.a = t.number(1, 60);
            case "loop" -> s.a = t.number(1, 99);
            case "yield" -> { s.a = t.known(state); t.i++; }
            case "pitch" -> { s.a = t.known(state); t.i++; s.b = t.number(0, state.wide * state.high - 1); }
            case "quarrel" -> {
                s.a = t.known(state);
                t.i++;
                s.b = t.known(state);
                t.i++;
                s.c = t.number(0, 99);
            }
            case "when" -> {
                if (t.is("up")) {
                    t.i++;
                    s.test = "up";
                    s.a = t.known(state);
                    t.i++;
                } else if (t.is("open") || t.is("now")) {
                    int most = t.is("open") ? 10 : 9999;
                    s.test = t.look().text;
                    t.i++;
                    if (!t.is("<") && !t.is(">") && !t.is("=")) throw t.bad(2);
                    s.test += t.look().text;
                    t.i++;
                    s.a = t.number(0, most);
                } else {
                    throw t.bad(2);
                }
            }
            default -> { }
        }
    }

    public int fault(int what) { return what == 0 ? fault : what == 1 ? faultAt : -1; }

    public int told(int what) {
        return num(() -> {
            need(in(what, 0, 8), 1);
            State s = state;
            return switch (what) {
                case 0 -> s.boys.size();
                case 1 -> s.quarrels.size();
                case 2 -> s.wide;
                case 3 -> s.high;
                case 4 -> s.odds;
                case 5 -> s.minute;
                case 6 -> s.set(s::up, s.boys.size());
                case 7 -> s.set(q -> s.quarrels.get(q).open(), s.quarrels.size());
                default -> s.quarrels.stream().filter(Quarrel::open).mapToInt(q -> q.grudge).sum();
            };
        });
    }

    public int boy(int boy, int what) {
        return num(() -> {
            isBoy(boy);
            need(in(what, 0, 6), 1);
            Boy b = state.boys.get(boy);
            int open = (int) state.quarrels.stream().filter(q -> q.open() && q.has(boy)).count();
            return new int[] {b.cell, b.pride, b.soft, b.ears, open == 0 ? 1 : 0, open, b.yields}[what];
        });
    }

    public int quarrel(int quarrel, int what) {
        return num(() -> {
            isQuarrel(quarrel);
            need(in(what, 0, 3), 1);
            Quarrel q = state.quarrels.get(quarrel);
            return new int[] {q.one, q.other, q.grudge, who(q)}[what];
        });
    }

    private static int who(Quarrel q) { return (q.oneYielded ? 1 : 0) + (q.otherYielded ? 2 : 0); }

    private static int goBy(State s, int many) {
        int before = s.open();
        for (int i = 0; i < many; i++) s.goBy();
        return before - s.open();
    }

    public int minute(int many) {
        return num(() -> {
            need(in(many, 1, 240), 1);
            need(state.minute + many <= 9999, 4);
            return goBy(state, many);
        });
    }

    public int dawn() { return num(() -> state.dawn()); }

    private static int begin(State s, int one, int other, int grudge) {
        Quarrel q = new Quarrel();
        q.one = one;
        q.other = other;
        q.grudge = grudge;
        s.quarrels.add(q);
        return s.quarrels.size() - 1;
    }

    public int boot(int boy, int other, int grudge) {
        return num(() -> {
            isBoy(boy);
            isBoy(other);
            need(boy != other && in(grudge, 0, 99), 1);
            need(state.quarrels.size() < 10, 4);
            return begin(state, boy, other, grudge);
        });
    }

    public int forgive(int boy) {
        return num(() -> {
            isBoy(boy);
            need(!state.up(boy), 7);
            return state.yield(boy);
        });
    }

    public int pitch(int boy, int cell) {
        return num(() -> {
            isBoy(boy);
            isCell(cell);
            int old = state.boys.get(boy).cell;
            need(old != cell, 7);
            state.boys.get(boy).cell = cell;
            return old;
        });
    }

    public boolean teach(int boy, int what, int much) {
        return yes(() -> {
            isBoy(boy);
            need(in(what, 1, 3), 1);
            need(what == 1 ? in(much, 1, 30) : in(much, 0, 9), 1);
            Boy b = state.boys.get(boy);
            if (what == 1) b.pride = much;
            if (what == 2) b.soft = much;
            if (what == 3) b.ears = much;
        });
    }

    public int stir(int quarrel, int grudge) {
        return num(() -> {
            isQuarrel(quarrel);
            need(in(grudge, 0, 99), 1);
            Quarrel q = state.quarrels.get(quarrel);
            need(q.open(), 7);
            int old = q.grudge;
            q.grudge = grudge;
            return old;
        });
    }

    public int come(int cell, int pride) {
        return num(() -> {
            isCell(cell);
            need(in(pride, 1, 30), 1);
            need(state.boys.size() < 8, 4);
            Boy b = new Boy();
            b.cell = cell;
            b.pride = pride;
            b.soft = 1;
            b.ears = 2;
            state.boys.add(b);
            return state.boys.size() - 1;
        });
    }

    public boolean rule(int odds) {
        return yes(() -> {
            need(in(odds, 0, 16), 1);
            state.odds = odds;
        });
    }

    public int far(int boy, int other) {
        return num(() -> {
            isBoy(boy);
            isBoy(other);
            return state.far(boy, other);
        });
    }

    public int hears(int boy) {
        return num(() -> {
            isBoy(boy);
            return state.set(o -> state.hears(boy, o), state.boys.size());
        });
    }

    public int near(int boy) {
        return num(() -> {
            isBoy(boy);
            State s = state.copy();
            s.quarrels.clear();
            return s.set(o -> s.hears(boy, o), s.boys.size());
        });
    }

    public int due(int boy, int quarrel) {
        return num(() -> {
            isBoy(boy);
            isQuarrel(quarrel);
            Quarrel q = state.quarrels.get(quarrel);
            need(q.has(boy), 6);
            need(q.open(), 7);
            return state.due(boy, q);
        });
    }

    public int upIn(int boy) {
        return num(() -> {
            isBoy(boy);
            return state.upIn(boy);
        });
    }

    public int upBy(int minutes) {
        return num(() -> {
            need(in(minutes, 0, 200), 1);
            State s = state.copy();
            goBy(s, minutes);
            return s.set(s::up, s.boys.size());
        });
    }

    public int breakfast() { return num(() -> state.breakfast()); }

    public int overIn(int quarrel) {
        return num(() -> {
            isQuarrel(quarrel);
            State s = state.copy();
            int n = 0;
            while (s.quarrels.get(quarrel).open()) {
                s.goBy();
                n++;
            }
            return n;
        });
    }

    public int yielder(int quarrel) {
        return num(() -> {
            isQuarrel(quarrel);
            State s = state.copy();
            goBy(s, 300);
            return who(s.quarrels.get(quarrel));
        });
    }

    public int reveille() {
        return num(() -> {
            need(state.open() > 0, 6);
            State s = state.copy();
            while (true) {
                List<Integer> who = s.goBy();
                if (!who.isEmpty()) return who.get(0);
            }
        });
    }

    public int last() {
        return num(() -> {
            need(!state.boys.isEmpty(), 6);
            int found = 0;
            for (int b = 0; b < state.boys.size(); b++) if (state.upIn(b) > state.upIn(found)) found = b;
            return found;
        });
    }

    private int[] soonestOf(int k) {
        need(in(k, 0, 4), 1);
        need(k <= state.boys.size(), 6);
        int[] found = null;
        for (int m = 0; m < 1 << state.boys.size(); m++) {
            if (Integer.bitCount(m) != k) continue;
            State s = state.copy();
            for (int b = 0; b < 8; b++) if ((m >> b & 1) == 1) s.yield(b);
            int v = s.breakfast();
            if (found == null || v < found[1]) found = new int[] {m, v};
        }
        return found;
    }

    public int soonest(int k) { return num(() -> soonestOf(k)[0]); }
    public int soonestIn(int k) { return num(() -> soonestOf(k)[1]); }

    private int[] bestOf(int boy) {
        isBoy(boy);
        int[] found = null;
        for (int c = 0; c < state.wide * state.high; c++) {
            State s = state.copy();
            s.boys.get(boy).cell = c;
            int v = s.breakfast();
            if (found == null || v < found[1]) found = new int[] {c, v};
        }
        return found;
    }

    public int best(int boy) { return num(() -> bestOf(boy)[0]); }
    public int bestIn(int boy) { return num(() -> bestOf(boy)[1]); }

    private int enders() {
        for (int k = 0; k <= 8; k++) {
            for (int m = 0; m < 1 << state.boys.size(); m++) {
                if (Integer.bitCount(m) != k) continue;
                State s = state.copy();
                for (int b = 0; b < 8; b++) if ((m >> b & 1) == 1) s.yield(b);
                if (s.open() == 0) return m;
            }
        }
        throw new IllegalStateException();
    }

    public int ending() { return num(() -> Integer.bitCount(enders())); }
    public int endingSet() { return num(() -> enders()); }

    private int apartOf() {
        for (int k = 10; k >= 0; k--) {
            for (int m = 0; m < 1 << state.quarrels.size(); m++) {
                if (Integer.bitCount(m) != k) continue;
                List<Integer> boys = new ArrayList<>();
                boolean open = true;
                for (int q = 0; q < state.quarrels.size(); q++) {
                    if ((m >> q & 1) == 0) continue;
                    Quarrel x = state.quarrels.get(q);
                    open &= x.open();
                    boys.add(x.one);
                    boys.add(x.other);
                }
                if (open && new HashSet<>(boys).size() == boys.size()) return m;
            }
        }
        throw new IllegalStateException();
    }

    public int apart() { return num(() -> Integer.bitCount(apartOf())); }
    public int apartSet() { return num(() -> apartOf()); }

    private Set<Integer> circleOf(int boy) {
        Set<Integer> met = new TreeSet<>();
        Deque<Integer> todo = new ArrayDeque<>(List.of(boy));
        while (!todo.isEmpty()) {
            int b = todo.pop();
            if (!met.add(b)) continue;
            for (Quarrel q : state.quarrels) if (q.open() && q.has(b)) todo.push(q.one == b ? q.other : q.one);
        }
        return met;
    }

    public int circle(int boy) {
        return num(() -> {
            isBoy(boy);
            return state.set(circleOf(boy)::contains, 8);
        });
    }

    public int circles() {
        return num(() -> {
            Set<Set<Integer>> all = new HashSet<>();
            for (int b = 0; b < state.boys.size(); b++) all.add(circleOf(b));
            return all.size();
        });
    }

    public int sides() {
        return num(() -> {
            for (int m = 0; m < 1 << state.boys.size(); m++) {
                boolean fits = true;
                for (Quarrel q : state.quarrels) if (q.open() && (m >> q.one & 1) == (m >> q.other & 1)) fits = false;
                if (fits) return m;
            }
            throw new No(6);
        });
    }

    private List<Integer> fitting(int boy, int tray, int n) {
        need(in(boy, 0, state.boys.size() - 1) && in(tray, 0, 3) && in(n, 0, 20), 1);
        there(tray);
        need(trays[tray].length >= 2 * n, 3);
        for (int i = 0; i < n; i++) {
            need(in(trays[tray][2 * i], 0, state.boys.size() - 1) && in(trays[tray][2 * i + 1], 0, 200), 5);
        }
        List<Integer> fit = new ArrayList<>();
        for (int p = 1; p <= 30; p++) {
            State s = with(boy, p);
            boolean all = true;
            for (int i = 0; i < n && all; i++) all = s.upIn((int) trays[tray][2 * i]) == trays[tray][2 * i + 1];
            if (all) fit.add(p);
        }
        return fit;
    }

    private State with(int boy, int pride) {
        State s = state.copy();
        s.boys.get(boy).pride = pride;
        return s;
    }

    public int fits(int boy, int tray, int n) { return num(() -> fitting(boy, tray, n).size()); }

    public int fitsAt(int boy, int tray, int n, int what) {
        return num(() -> {
            need(in(what, 0, 1), 1);
            List<Integer> fit = fitting(boy, tray, n);
            need(!fit.isEmpty(), 6);
            return what == 0 ? fit.get(0) : fit.get(fit.size() - 1);
        });
    }

    public int ask(int boy, int tray, int n) {
        return num(() -> {
            List<Integer> fit = fitting(boy, tray, n);
            need(fit.size() >= 2, 6);
            int found = -1, fewest = 99;
            for (int b = 0; b < state.boys.size(); b++) {
                Map<Integer, Integer> groups = new HashMap<>();
                for (int p : fit) groups.merge(with(boy, p).upIn(b), 1, Integer::sum);
                int most = groups.values().stream().max(Integer::compare).get();
                if (most < fewest) {
                    fewest = most;
                    found = b;
                }
            }
            return found;
        });
    }

    private List<int[]> restsOf(int quarrel, int n) {
        isQuarrel(quarrel);
        need(in(n, 0, 20), 1);
        int g = state.quarrels.get(quarrel).grudge;
        int[][] a = new int[n + 1][n + 1], b = new int[n + 1][n + 1];
        for (int x = 0; x <= n; x++) {
            for (int y = 0; y <= n; y++) {
                a[x][y] = x < y ? -x : x > y ? g - y : -x;
                b[x][y] = y < x ? -y : y > x ? g - x : -y;
            }
        }
        List<int[]> all = new ArrayList<>();
        for (int x = 0; x <= n; x++) {
            for (int y = 0; y <= n; y++) {
                boolean rest = true;
                for (int z = 0; z <= n; z++) rest &= a[z][y] <= a[x][y] && b[x][z] <= b[x][y];
                if (rest) all.add(new int[] {x, y});
            }
        }
        return all;
    }

    public int rests(int quarrel, int n) { return num(() -> restsOf(quarrel, n).size()); }

    public int restAt(int quarrel, int n, int k, int what) {
        return num(() -> {
            need(in(what, 0, 1) && k >= 0, 1);
            List<int[]> all = restsOf(quarrel, n);
            need(k < all.size(), 6);
            return all.get(k)[what];
        });
    }

    private static int play(State s, boolean eager, int turns) {
        if (turns == 0) return s.breakfast();
        List<Integer> all = new ArrayList<>();
        all.add(play(s, !eager, turns - 1));
        for (int q = 0; q < s.quarrels.size(); q++) {
            if (s.quarrels.get(q).open()) all.add(play(moved(s, eager, q), !eager, turns - 1));
        }
        return eager ? all.stream().min(Integer::compare).get() : all.stream().max(Integer::compare).get();
    }

    private static State moved(State s, boolean eager, int q) {
        State t = s.copy();
        if (eager) t.quarrels.get(q).struckDown = true;
        else t.quarrels.get(q).grudge = Math.min(99, t.quarrels.get(q).grudge + 9);
        return t;
    }

    public int game(int turns) {
        return num(() -> {
            need(in(turns, 0, 3), 1);
            return play(state, true, turns);
        });
    }

    public int moveOf(int turns) {
        return num(() -> {
            need(in(turns, 1, 3), 1);
            int goal = play(state, true, turns);
            for (int q = 0; q < state.quarrels.size(); q++) {
                if (state.quarrels.get(q).open() && play(moved(state, true, q), false, turns - 1) == goal) return q;
            }
            throw new No(6);
        });
    }

    public boolean night(int k) {
        return yes(() -> {
            need(in(k, 0, 10), 1);
            // How many of 16 to the power of the open ones, by how many stay OPEN, one QUARREL after the other.
            long[] ways = new long[12];
            ways[0] = 1;
            long all = 1;
            for (int i = 0; i < state.open(); i++) {
                long[] next = new long[12];
                for (int j = 0; j < 11; j++) {
                    next[j] += ways[j] * state.odds;
                    next[j + 1] += ways[j] * (16 - state.odds);
                }
                ways = next;
                all *= 16;
            }
            long sum = 0;
            for (int j = 0; j <= k; j++) sum += ways[j];
            fraction(sum, all);
        });
    }

    public boolean wakes(int boy) {
        return yes(() -> {
            isBoy(boy);
            long a = 1, b = 1;
            for (Quarrel q : state.quarrels) {
                if (q.open() && q.has(boy)) {
                    a *= state.odds;
                    b *= 16;
                }
            }
            fraction(a, b);
        });
    }

    public int copyYields(int tray) {
        return num(() -> {
            there(tray);
            need(trays[tray].length >= state.boys.size(), 3);
            for (int b = 0; b < state.boys.size(); b++) trays[tray][b] = cut(state.boys.get(b).yields, sorts[tray]);
            return state.boys.size();
        });
    }

    /** What a run of WEEKS comes to; a STEP too many and a stop leave it by throwing. */
    private static final class Run {
        private static final class Stopped extends RuntimeException {
            Stopped() { super(null, null, false, false); }
        }

        final State s;
        int draw;
        int steps = 0;
        int[] told = new int[5];

        Run(State s, int seed) {
            this.s = s;
            this.draw = seed;
        }

        void run(List<Step> weeks) {
            try {
                all(weeks);
            } catch (Stopped stopped) {
                return;
            }
        }

        void all(List<Step> list) {
            for (Step step : list) {
                if (steps == 300) {
                    told[4] = 1;
                    throw new Stopped();
                }
                steps++;
                one(step);
            }
        }

        int drawBy(int n) {
            draw = (int) ((draw * 3187L + 11411L) % 65536L);
            return (draw / 8) % n;
        }

        void one(Step x) {
            boolean came = true;
            switch (x.word) {
                case "stop" -> throw new Stopped();
                case "loop" -> { for (int i = 0; i < x.a; i++) all(x.inner); }
                case "when" -> { if (holds(x)) all(x.inner); }
                case "minute" -> {
                    came = s.minute + x.a <= 9999;
                    if (came) {
                        told[1] += x.a;
                        told[2] += goBy(s, x.a);
                    }
                }
                case "dawn" -> {
                    came = s.minute > 0 || s.open() < s.quarrels.size();
                    s.dawn();
                }
                case "quarrel" -> came = quarrel(x.a, x.b, x.c);
                case "yield" -> {
                    came = !s.up(x.a);
                    s.yield(x.a);
                }
                case "pitch" -> {
                    came = s.boys.get(x.a).cell != x.b;
                    s.boys.get(x.a).cell = x.b;
                }
                default -> {
                    int n = s.boys.size();
                    came = false;
                    if (n > 0) {
                        int a = drawBy(n), b = drawBy(n), g = drawBy(20);
                        came = quarrel(a, b, g);
                    }
                }
            }
            if (!came) told[0]++;
        }

        boolean quarrel(int a, int b, int g) {
            if (a == b || s.quarrels.size() == 10) return false;
            begin(s, a, b, g);
            told[3]++;
            return true;
        }

        boolean holds(Step x) {
            if (x.test.equals("up")) return s.up(x.a);
            int v = x.test.startsWith("open") ? s.open() : s.minute;
            return x.test.endsWith("<") ? v < x.a : x.test.endsWith(">") ? v > x.a : v == x.a;
        }
    }

    public int live(int seed) {
        return num(() -> {
            need(in(seed, 0, 9999), 1);
            need(weeks != null, 6);
            Run r = new Run(state, seed);
            r.run(weeks);
            lived = r.told;
            return r.steps;
        });
    }

    public int lived(int what) {
        return num(() -> {
            need(in(what, 0, 4), 1);
            need(lived != null, 6);
            return lived[what];
        });
    }

    public boolean mean(int seed, int many) {
        return yes(() -> {
            need(in(seed, 0, 9999) && in(many, 1, 20) && seed + many - 1 <= 9999, 1);
            need(weeks != null, 6);
            int sum = 0;
            for (int i = 0; i < many; i++) {
                Run r = new Run(state.copy(), seed + i);
                r.run(weeks);
                sum += r.s.open();
            }
            fraction(sum, many);
        });
    }

    public int mark() {
        return num(() -> {
            need(marks.size() < 3, 4);
            marks.push(new Object[] {state.copy(), weeks});
            return marks.size();
        });
    }

    public int undo() {
        return num(() -> {
            need(!marks.isEmpty(), 6);
            Object[] kept = marks.pop();
            state = (State) kept[0];
            @SuppressWarnings("unchecked")
            List<Step> old = (List<Step>) kept[1];
            weeks = old;
            return marks.size();
        });
    }
}
