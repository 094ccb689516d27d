import java.lang.reflect.Method;
import java.util.ArrayList;
import java.util.HashMap;
import java.util.List;
import java.util.Map;
import java.util.Random;

/** Long runs of drawn calls: ForgiveCamp must answer as the Oracle does, call by call. */
public final class OracleTests {
    private static final String[] NAMES = {"a", "bo", "cal", "dirk", "emile", "fridol", "gustave", "hannibal", "x", "y"};
    private static final String[] WORDS = ("field by odds boy at pride soft ears quarrel grudge minute dawn yield pitch any"
        + " when up open now loop end stop ; < > = 0 1 9 30 31 99 100 9999 12345 ninelette zz A @").split(" ");
    private static final int CALLS = 480;

    private final Random random;
    private final ForgiveCamp camp = new ForgiveCamp();
    private final Oracle oracle = new Oracle();
    private final List<String> log = new ArrayList<>();
    private final Map<String, Integer> counts;
    private int calls = 0;
    private String wrong = null;

    private static final Map<String, Method> CAMP = methods(ForgiveCamp.class);
    private static final Map<String, Method> ORACLE = methods(Oracle.class);

    private static Map<String, Method> methods(Class<?> type) {
        Map<String, Method> map = new HashMap<>();
        for (Method m : type.getDeclaredMethods()) {
            if (java.lang.reflect.Modifier.isPublic(m.getModifiers())) map.put(m.getName(), m);
        }
        return map;
    }

    private OracleTests(long seed, Map<String, Integer> counts) {
        this.random = new Random(seed);
        this.counts = counts;
    }

    private int draw(int low, int high) {
        return low + random.nextInt(high - low + 1);
    }

    private boolean oneOf(int n) {
        return random.nextInt(n) == 0;
    }

    private Object call(String name, Object... given) {
        if (wrong != null) return -1;
        Object[] args = given.clone();
        Object got;
        Object due;
        try {
            got = CAMP.get(name).invoke(camp, args);
            due = ORACLE.get(name).invoke(oracle, args);
        } catch (ReflectiveOperationException e) {
            throw new IllegalStateException(name + java.util.Arrays.toString(args) + " after " + log, e);
        }
        calls++;
        String told = name + java.util.Arrays.toString(args);
        log.add(told + " = " + got);
        compare(told, got, due);
        compare(told + " status()", camp.status(), oracle.status());
        compare(told + " top()", camp.top(), oracle.top());
        compare(told + " bottom()", camp.bottom(), oracle.bottom());
        compare(told + " fault(0)", camp.fault(0), oracle.fault(0));
        compare(told + " fault(1)", camp.fault(1), oracle.fault(1));
        counts.merge(name + " status " + camp.status(), 1, Integer::sum);
        if (name.startsWith("lived") && args[0].equals(4)) counts.merge("lived(4) = " + got, 1, Integer::sum);
        if (name.equals("camp") || name.equals("weeks")) counts.merge(name + " fault " + camp.fault(0), 1, Integer::sum);
        return got;
    }

    private void compare(String told, Object got, Object due) {
        if (wrong == null && !got.equals(due)) wrong = told + " answered " + got + ", due is " + due;
    }

    /** Asked of both, as STATUS is that of the latest call. */
    private int peek(int what) {
        oracle.told(what);
        return camp.told(what);
    }

    private int word(byte[] b, int i) {
        int v = 0;
        for (int k = 0; k < 4; k++) v = v << 8 | (i + k < b.length ? b[i + k] & 255 : 32);
        return v;
    }

    private void feedAll(String text) {
        byte[] b = text.getBytes(java.nio.charset.StandardCharsets.ISO_8859_1);
        for (int i = 0; i < b.length; i += 20) {
            call("feed", word(b, i), word(b, i + 4), word(b, i + 8), word(b, i + 12), word(b, i + 16));
        }
    }

    private String blank() {
        return oneOf(12) ? "\n " : " ";
    }

    private String someBoy(int boys) {
        return oneOf(60) ? NAMES[9] : boys == 0 ? NAMES[0] : NAMES[random.nextInt(boys)];
    }

    private int some(int low, int high) {
        if (oneOf(90)) return oneOf(2) ? high + 1 : low == 0 ? high + 7 : low - 1;
        return draw(low, high);
    }

    private int wide = 4, high = 3;

    private String campText() {
        StringBuilder t = new StringBuilder();
        wide = 4;
        high = 3;
        if (oneOf(3)) t.append("odds ").append(some(0, 16)).append(";");
        if (!oneOf(3)) {
            wide = draw(1, 6);
            high = draw(1, 6);
            t.append("field ").append(wide).append(" by ").append(high).append(" ;").append(blank());
        }
        int boys = oneOf(40) ? 9 : draw(0, 8), quarrels = boys < 2 ? 0 : oneOf(30) ? 11 : draw(0, 10);
        int said = 0;
        for (int b = 0; b < boys; b++) {
            t.append("boy ").append(oneOf(150) ? "a" : NAMES[b]).append(blank()).append("at ").append(some(0, wide * high - 1));
            t.append(" pride ").append(some(1, oneOf(3) ? 30 : 6));
            if (oneOf(2)) t.append(" soft ").append(some(0, 9));
            if (oneOf(2)) t.append(" ears ").append(some(0, oneOf(3) ? 9 : 5));
            t.append(";");
            while (b > 0 && said < quarrels && oneOf(2)) {
                t.append(quarrelText(b + 1));
                said++;
            }
        }
        for (; said < quarrels; said++) t.append(quarrelText(boys));
        if (oneOf(25)) t.append("odds ").append(draw(0, 16)).append(";");
        if (oneOf(60)) t.append("field 2 by 2;");
        return t.toString();
    }

    private String quarrelText(int boys) {
        int a = random.nextInt(boys), b = (a + 1 + random.nextInt(boys - 1)) % boys;
        if (oneOf(150)) b = a;
        String first = oneOf(80) ? someBoy(boys) : NAMES[a];
        return "quarrel " + first + blank() + NAMES[b] + " grudge " + some(0, oneOf(4) ? 99 : 12) + ";";
    }

    private String weeksText(int boys) {
        StringBuilder t = new StringBuilder();
        if (oneOf(12)) for (int i = draw(25, 31); i > 0; i--) t.append(oneOf(3) ? "dawn;" : oneOf(9) ? "loop 3;end;" : "any;");
        else steps(t, boys, draw(0, 7), 0);
        if (oneOf(40)) t.append(" end;");
        return t.toString();
    }

    private void steps(StringBuilder t, int boys, int many, int depth) {
        for (int i = 0; i < many; i++) {
            switch (draw(0, boys == 0 ? 7 : 12)) {
                case 0 -> t.append("minute ").append(some(1, 60)).append(";");
                case 1 -> t.append("minute ").append(draw(1, 9)).append(";");
                case 2 -> t.append("dawn;");
                case 3, 4 -> t.append("any;");
                case 5 -> {
                    if (oneOf(4)) t.append("stop;");
                }
                case 6 -> block(t, "loop " + some(1, oneOf(3) ? 99 : 6), boys, depth);
                case 7 -> {
                    boolean open = oneOf(2);
                    String test = (open ? "open" : "now") + blank() + "<>=".charAt(random.nextInt(3));
                    block(t, "when " + test + some(0, open ? 10 : oneOf(2) ? 9999 : 40), boys, depth);
                }
                case 8 -> block(t, "when up " + someBoy(boys), boys, depth);
                case 9 -> t.append("yield ").append(someBoy(boys)).append(";");
                case 10 -> t.append("pitch ").append(someBoy(boys)).append(" ").append(some(0, wide * high - 1)).append(";");
                default -> t.append("quarrel ").append(someBoy(boys)).append(" ").append(someBoy(boys)).append(" ")
                    .append(some(0, 99)).append(";");
            }
        }
    }

    private void block(StringBuilder t, String head, int boys, int depth) {
        if (depth > 3 || depth == 3 && !oneOf(3)) return;
        t.append(head).append(";");
        steps(t, boys, draw(0, oneOf(3) ? 6 : 3), depth + 1);
        if (!oneOf(60)) t.append("end;");
    }

    private String spoiled(String text) {
        if (text.isEmpty() || !oneOf(5)) return text;
        int at = random.nextInt(text.length());
        switch (draw(0, 3)) {
            case 0: return text.substring(0, at);
            case 1: return text.substring(0, at) + text.substring(at + 1);
            case 2: return text.substring(0, at) + (char) draw(0, 255) + text.substring(at + 1);
            default: return text.substring(0, at) + " " + WORDS[random.nextInt(WORDS.length)] + " " + text.substring(at);
        }
    }

    private void newCamp() {
        String t = spoiled(campText());
        if (t.length() > 880) return;
        feedAll(t);
        int over = oneOf(30) ? draw(-1, 25) : 0;
        call("camp", t.length() + over);
        if (oneOf(60)) call("camp", oneOf(2) ? 0 : -1);
        wide = peek(2);
        high = peek(3);
    }

    private void newWeeks() {
        String t = spoiled(weeksText(Math.min(peek(0), 8)));
        if (t.length() > 300 && !oneOf(20)) return;
        if (t.length() > 880) return;
        feedAll(t);
        call("weeks", t.length() + (oneOf(30) ? draw(-1, 3) : 0));
    }

    private int aBoy() {
        return oneOf(25) ? draw(-1, 8) : draw(0, Math.max(0, peek(0) - 1));
    }

    private int aQuarrel() {
        return oneOf(25) ? draw(-1, 10) : draw(0, Math.max(0, peek(1) - 1));
    }

    private int aCell() {
        return oneOf(25) ? draw(-1, 36) : draw(0, peek(2) * peek(3) - 1);
    }

    private void aClue() {
        int tray = draw(0, 3), twos = draw(0, 4), boy = aBoy();
        call("tray", tray, draw(0, 3), 2 * twos + (oneOf(9) ? -1 : 0));
        for (int i = 0; i < twos; i++) {
            int seen = aBoy();
            int when = seen >= 0 && seen < peek(0) ? (Integer) call("upIn", seen) : 3;
            call("write", tray, 2 * i, (long) seen);
            call("write", tray, 2 * i + 1, oneOf(6) ? (long) some(0, 200) : (long) when);
        }
        call("fits", boy, tray, twos);
        call("fitsAt", boy, tray, twos, 0);
        call("fitsAt", boy, tray, twos, 1);
        call("ask", boy, tray, twos);
    }

    private void step() {
        switch (draw(0, 36)) {
            case 0 -> call("tray", some(0, 3), some(0, 3), some(0, 60));
            case 1 -> call("write", some(0, 3), draw(-1, 61), random.nextLong());
            case 2 -> call("read", some(0, 3), draw(-1, 61));
            case 3 -> call("pour", some(0, 3), draw(-1, 20), some(0, 3), draw(-1, 20), oneOf(9) ? Integer.MAX_VALUE : draw(-1, 30));
            case 4 -> { for (int w = -1; w < 10; w++) call("told", w); }
            case 5 -> { int b = aBoy(); for (int w = -1; w < 8; w++) call("boy", b, w); }
            case 6 -> { int q = aQuarrel(); for (int w = -1; w < 5; w++) call("quarrel", q, w); }
            case 7 -> call("minute", oneOf(9) ? some(1, 240) : draw(1, 12));
            case 8 -> { if (oneOf(3)) call("dawn"); }
            case 9, 10 -> call("boot", aBoy(), aBoy(), some(0, oneOf(3) ? 99 : 20));
            case 11 -> call("forgive", aBoy());
            case 12 -> call("pitch", aBoy(), aCell());
            case 13 -> call("teach", aBoy(), some(1, 3), draw(-1, 12));
            case 14 -> call("stir", aQuarrel(), some(0, 99));
            case 15 -> { if (oneOf(2)) call("come", aCell(), some(1, 30)); }
            case 16 -> call("rule", some(0, 16));
            case 17 -> { call("far", aBoy(), aBoy()); call("hears", aBoy()); call("near", aBoy()); }
            case 18 -> { for (int i = 0; i < 3; i++) call("due", aBoy(), aQuarrel()); }
            case 19 -> { for (int b = 0; b < 8; b++) call("upIn", b); }
            case 20 -> { call("upBy", some(0, 200)); call("upBy", draw(0, 20)); call("breakfast"); }
            case 21 -> { call("overIn", aQuarrel()); call("yielder", aQuarrel()); call("reveille"); call("last"); }
            case 22 -> { int k = some(0, 4); call("soonest", k); call("soonestIn", k); }
            case 23 -> { int b = aBoy(); call("best", b); call("bestIn", b); }
            case 24 -> { call("ending"); call("endingSet"); call("apart"); call("apartSet"); }
            case 25 -> { call("circle", aBoy()); call("circles"); call("sides"); }
            case 26 -> aClue();
            case 27 -> { call("rests", aQuarrel(), some(0, 20)); call("restAt", aQuarrel(), some(0, 20), draw(-1, 30), some(0, 1)); }
            case 28 -> { int t = oneOf(4) ? 3 : draw(-1, 4); if (t < 3 || oneOf(4)) { call("game", t); call("moveOf", t); } }
            case 29 -> { call("night", some(0, 10)); call("wakes", aBoy()); }
            case 30 -> call("copyYields", some(0, 3));
            case 31 -> newWeeks();
            case 32 -> { call("live", some(0, 9999)); for (int w = -1; w < 6; w++) call("lived", w); }
            case 33 -> { if (oneOf(2)) call("mean", some(0, 9999), some(1, 20)); else call("mean", draw(9970, 9999), draw(1, 20)); }
            case 34 -> call("mark");
            case 35 -> call("undo");
            default -> { if (oneOf(4)) newCamp(); }
        }
    }

    private String run() {
        if (!oneOf(10)) for (int tries = 0; tries < 9 && peek(1) < 2; tries++) newCamp();
        if (oneOf(2)) newWeeks();
        for (int t = 0; t < 4; t++) if (oneOf(2)) call("tray", t, oneOf(2) ? 1 : draw(0, 3), draw(0, 60));
        while (calls < CALLS / 3 && wrong == null) step();
        return wrong;
    }

    public static void main(String[] args) {
        int runs = args.length > 0 ? Integer.parseInt(args[0]) : 400;
        long from = args.length > 1 ? Long.parseLong(args[1]) : 1;
        Map<String, Integer> counts = new java.util.TreeMap<>();
        for (long seed = from; seed < from + runs; seed++) {
            OracleTests test = new OracleTests(seed, counts);
            String wrong = test.run();
            if (wrong != null) {
                test.log.forEach(System.out::println);
                System.out.println("drawn run " + seed + ": " + wrong);
                System.exit(1);
            }
        }
        if (args.length > 2) counts.forEach((k, v) -> System.out.println(k + ": " + v));
        System.out.println("OracleTests: " + runs + " drawn runs are as due");
    }
}
