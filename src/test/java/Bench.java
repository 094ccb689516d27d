import java.nio.charset.StandardCharsets;

/** Answers held against what is due, each under the sentence of the document that it stands for. */
final class Bench {
    static final int NONE = ForgiveCamp.NONE;
    private static String sentence = "";
    private static int sentences = 0;
    private static int wrong = 0;

    private Bench() { }

    static void sentence(String words) {
        sentence = words;
        sentences++;
    }

    static void due(String what, long got, long want) {
        if (got != want) {
            wrong++;
            System.out.println("\"" + sentence + "\": " + what + " answered " + got + ", due is " + want);
        }
    }

    static void given(String what, ForgiveCamp x, long got, long want) {
        due(what, got, want);
        due(what + " status()", x.status(), 0);
    }

    static void given(String what, ForgiveCamp x, boolean got) {
        given(what, x, got ? 1 : 0, 1);
    }

    static void refused(String what, ForgiveCamp x, long got, int status) {
        due(what, got, NONE);
        due(what + " status()", x.status(), status);
    }

    static void refused(String what, ForgiveCamp x, boolean got, int status) {
        due(what, got ? 1 : 0, 0);
        due(what + " status()", x.status(), status);
    }

    static void fraction(String what, ForgiveCamp x, boolean got, long top, long bottom) {
        given(what, x, got);
        due(what + " top()", x.top(), top);
        due(what + " bottom()", x.bottom(), bottom);
    }

    /** Each answer of a row by its place, each with STATUS 0. */
    static void row(String what, ForgiveCamp x, java.util.function.IntToLongFunction call, long... want) {
        for (int i = 0; i < want.length; i++) given(what + " of " + i, x, call.applyAsLong(i), want[i]);
    }

    static int feed(ForgiveCamp x, String text) {
        byte[] b = text.getBytes(StandardCharsets.ISO_8859_1);
        int[] five = new int[5];
        for (int i = 0; i < b.length; i += 20) {
            for (int k = 0; k < 5; k++) {
                five[k] = 0;
                for (int j = 0; j < 4; j++) five[k] = five[k] << 8 | (i + 4 * k + j < b.length ? b[i + 4 * k + j] & 255 : 0);
            }
            x.feed(five[0], five[1], five[2], five[3], five[4]);
        }
        return b.length;
    }

    static int camp(ForgiveCamp x, String text) {
        return x.camp(feed(x, text));
    }

    static int weeks(ForgiveCamp x, String text) {
        return x.weeks(feed(x, text));
    }

    /** A new object with that CAMP, which must be one. */
    static ForgiveCamp of(String text) {
        ForgiveCamp x = new ForgiveCamp();
        camp(x, text);
        due("camp: " + text + " status()", x.status(), 0);
        return x;
    }

    /** BOYS a, b, .. of one sort, all AT CELL 0; each pair of letters is a QUARREL. */
    static ForgiveCamp boys(int many, String rest, int grudge, String... pairs) {
        StringBuilder t = new StringBuilder();
        for (int i = 0; i < many; i++) t.append("boy ").append((char) ('a' + i)).append(" at 0 ").append(rest).append(';');
        for (String p : pairs) {
            t.append("quarrel ").append(p.charAt(0)).append(' ').append(p.charAt(1)).append(" grudge ").append(grudge).append(';');
        }
        return of(t.toString());
    }

    /** To a MINUTE far on, by as few calls as it takes. */
    static void goTo(ForgiveCamp x, int minute) {
        for (int left = minute - x.told(5); left > 0; left -= 240) x.minute(Math.min(240, left));
        due("the MINUTE", x.told(5), minute);
    }

    static void end(String name) {
        if (wrong > 0) System.exit(1);
        System.out.println(name + ": " + sentences + " sentences hold");
    }
}
