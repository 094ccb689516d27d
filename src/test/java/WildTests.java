import java.lang.reflect.InvocationTargetException;
import java.lang.reflect.Method;
import java.lang.reflect.Modifier;
import java.util.Arrays;
import java.util.function.Supplier;

/** No call throws or runs on, and each answers as the Oracle does, for numbers far from what can be, in each sort of CAMP. */
public final class WildTests {
    private static final int LEAST = Integer.MIN_VALUE;
    private static final int MOST = Integer.MAX_VALUE;
    private static final int[] MANY = {LEAST, LEAST + 1, -65536, -1, 0, 1, 2, 3, 4, 7, 8, 10, 11, 12, 16, 20, 30, 36, 60, 99, 200, 240, 300, 900,
        9999, 10000, 65536, 1 << 30, MOST - 1, MOST};
    private static final int[] SOME = {LEAST, -1, 0, 1, 2, 4, 10, 60, 1 << 30, MOST - 1, MOST};
    private static final int[] FEW = {LEAST, -1, 0, 3, 4, 60, MOST};
    private static int wrong = 0;
    private static int calls = 0;

    private final ForgiveCamp camp = new ForgiveCamp();
    private final Oracle oracle = new Oracle();

    private static Method twinOf(Method m) throws NoSuchMethodException {
        return Oracle.class.getMethod(m.getName(), m.getParameterTypes());
    }

    private void call(Method m, Object... args) throws ReflectiveOperationException {
        calls++;
        String told = m.getName() + Arrays.toString(args);
        try {
            Object got = m.invoke(camp, args);
            Object due = twinOf(m).invoke(oracle, args);
            compare(told, got, due);
            compare(told + " status()", camp.status(), oracle.status());
            compare(told + " top()", camp.top(), oracle.top());
            compare(told + " bottom()", camp.bottom(), oracle.bottom());
        } catch (InvocationTargetException e) {
            wrong++;
            System.out.println("WildTests: " + told + " threw " + e.getCause());
        }
    }

    private static void compare(String told, Object got, Object due) {
        if (!got.equals(due)) {
            wrong++;
            System.out.println("WildTests: " + told + " answered " + got + ", due is " + due);
        }
    }

    private void text(String text, boolean weeks) {
        String t = text + " ".repeat((20 - text.length() % 20) % 20);
        for (int i = 0; i < t.length(); i += 20) {
            int[] five = new int[5];
            for (int k = 0; k < 20; k++) five[k / 4] = five[k / 4] << 8 | t.charAt(i + k);
            camp.feed(five[0], five[1], five[2], five[3], five[4]);
            oracle.feed(five[0], five[1], five[2], five[3], five[4]);
        }
        if (weeks) compare("weeks", camp.weeks(t.length()), oracle.weeks(t.length()));
        else compare("camp", camp.camp(t.length()), oracle.camp(t.length()));
        compare("STATUS of a text", camp.status(), 0);
    }

    private static WildTests bare() {
        return new WildTests();
    }

    private static WildTests some() {
        WildTests w = new WildTests();
        w.text("field 3 by 2; boy a at 0 pride 5; boy b at 5 pride 30 soft 9 ears 9; boy c at 1 pride 3 soft 0; boy d at 2 pride 1; quarrel a b grudge 30;"
            + "quarrel b c grudge 99; quarrel c a grudge 0;", false);
        w.text("any; minute 60; yield a; loop 99; when open > 2; any; dawn; stop; end; end;", true);
        for (int t = 0; t < 3; t++) {
            w.camp.tray(t, t + 1, 20 * t + 20);
            w.oracle.tray(t, t + 1, 20 * t + 20);
        }
        return w;
    }

    private static WildTests full() {
        WildTests w = new WildTests();
        StringBuilder t = new StringBuilder("field 6 by 6; odds 15;");
        for (char c = 'a'; c < 'i'; c++) t.append("boy ").append(c).append(" at ").append(4 * (c - 'a')).append(" pride 30;");
        for (int i = 0; i < 10; i++) t.append("quarrel ").append((char) ('a' + i % 8)).append(' ').append((char) ('a' + (3 * i + 1) % 8)).append(" grudge 99;");
        w.text(t.toString().replace("quarrel d c", "quarrel d a").replace("quarrel h g", "quarrel h a"), false);
        w.text("loop 99; loop 99; minute 60; any; pitch a 35; dawn; end; end;", true);
        for (int i = 0; i < 3; i++) {
            w.camp.mark();
            w.oracle.mark();
        }
        return w;
    }

    private static int[] numbersFor(int parameters) {
        return parameters <= 2 ? MANY : parameters == 3 ? SOME : FEW;
    }

    private static void tryAll(Method m, Supplier<WildTests> made) throws ReflectiveOperationException {
        int n = m.getParameterCount();
        int[] numbers = numbersFor(n);
        long all = 1;
        for (int i = 0; i < n; i++) all *= numbers.length;
        WildTests w = made.get();
        for (long k = 0; k < all; k++) {
            // What is done adds up; a new object every hundred calls keeps the CAMP as it is meant.
            if (k % 100 == 99) w = made.get();
            Object[] args = new Object[n];
            long rest = k;
            for (int i = 0; i < n; i++) {
                int v = numbers[(int) (rest % numbers.length)];
                rest /= numbers.length;
                args[i] = m.getParameterTypes()[i] == long.class ? (Object) (long) v : (Object) v;
            }
            w.call(m, args);
        }
    }

    public static void main(String[] args) throws ReflectiveOperationException {
        for (Method m : ForgiveCamp.class.getDeclaredMethods()) {
            if (!Modifier.isPublic(m.getModifiers())) continue;
            tryAll(m, WildTests::bare);
            tryAll(m, WildTests::some);
            // The Oracle goes MINUTE by MINUTE and copies all at each turn.
            boolean slow = m.getName().equals("game") || m.getName().equals("moveOf") || m.getName().equals("mean");
            if (!slow) tryAll(m, WildTests::full);
        }
        if (wrong > 0) System.exit(1);
        System.out.println("WildTests: " + calls + " calls are as due");
    }
}
