/** The sentences of section 4 (WEEKS, what is LIVED, MARKS) that name an edge: one test each. */
public final class WeeksTests {
    private static final String THREE = "boy a at 0 pride 5 soft 0; boy b at 1 pride 30 soft 0; boy c at 2 pride 9 soft 0; quarrel a b grudge 3;";

    /** Lives through the text from THREE: how many STEPS, and what lived() tells of it. */
    private static ForgiveCamp lives(String text, int steps, long... lived) {
        ForgiveCamp x = Bench.of(THREE);
        return goesOn(x, text, steps, lived);
    }

    private static ForgiveCamp goesOn(ForgiveCamp x, String text, int steps, long... lived) {
        Bench.weeks(x, text);
        Bench.due(text + " status()", x.status(), 0);
        Bench.given(text, x, x.live(0), steps);
        Bench.row(text + " lived", x, x::lived, lived);
        return x;
    }

    /** The draws, reckoned apart from the program. */
    private static final class Draws {
        private long s;

        Draws(int seed) {
            s = seed;
        }

        int by(int n) {
            s = java.math.BigInteger.valueOf(s).multiply(java.math.BigInteger.valueOf(3187))
                .add(java.math.BigInteger.valueOf(11411)).mod(java.math.BigInteger.valueOf(65536)).longValue();
            return (int) (s / 8 % n);
        }
    }

    private static void noWeeks() {
        Bench.sentence("WEEKS (none at first); 6: no WEEKS");
        ForgiveCamp x = Bench.of(THREE);
        Bench.refused("live", x, x.live(0), 6);
        Bench.refused("mean", x, x.mean(0, 1), 6);
        Bench.refused("a FAULT makes none", x, Bench.weeks(x, "end;"), 9);
        Bench.refused("live", x, x.live(0), 6);
        Bench.given("weeks", x, Bench.weeks(x, "stop;"), 1);
        Bench.given("live", x, x.live(0), 1);
        Bench.sentence("a CAMP that is taken: there are no WEEKS");
        Bench.refused("a FAULT", x, Bench.camp(x, "odds"), 9);
        Bench.given("they stay", x, x.live(0), 1);
        x.camp(0);
        Bench.refused("live", x, x.live(0), 6);
        Bench.sentence("WEEKS of no STEPS");
        Bench.given("weeks(0)", x, x.weeks(0), 0);
        Bench.given("live", x, x.live(0), 0);
        Bench.row("lived", x, x::lived, 0, 0, 0, 0, 0);
        Bench.fraction("mean", x, x.mean(0, 20), 0, 1);
    }

    private static void seeds() {
        Bench.sentence("LIVED by a seed (0 to 9,999)");
        ForgiveCamp x = Bench.of(THREE);
        for (int seed : new int[] {-1, 10000, Integer.MIN_VALUE, Integer.MAX_VALUE}) {
            Bench.refused("no WEEKS, but 1 comes first", x, x.live(seed), 1);
            Bench.refused("no WEEKS, but 1 comes first", x, x.mean(seed, 1), 1);
        }
        Bench.weeks(x, "any;");
        for (int seed : new int[] {-1, 10000}) {
            Bench.refused("live", x, x.live(seed), 1);
            Bench.refused("mean", x, x.mean(seed, 1), 1);
        }
        for (int seed : new int[] {0, 9999}) Bench.given("live", x, x.live(seed), 1);

        Bench.sentence("mean: by so many seeds (1 to 20) from one on (1: the last above 9,999, too)");
        for (int many : new int[] {0, -1, 21, Integer.MIN_VALUE, Integer.MAX_VALUE}) Bench.refused("mean", x, x.mean(0, many), 1);
        Bench.refused("to 10,000", x, x.mean(9999, 2), 1);
        Bench.refused("to 10,000", x, x.mean(9981, 20), 1);
        Bench.given("to 9,999", x, x.mean(9980, 20));
        Bench.given("to 9,999", x, x.mean(9999, 1));

        Bench.sentence("Draws: s times 3,187 and 11,411 by 65,536; the rest of s by 8, rounded down, by n; all three first");
        for (int seed : new int[] {0, 1, 7, 4095, 5000, 8191, 8192, 9998, 9999}) {
            for (int boys = 1; boys <= 8; boys++) drawn(seed, boys);
        }
    }

    /** Nine times any, by so many BOYS: which QUARRELS there are, and how many were MISSED. */
    private static void drawn(int seed, int boys) {
        ForgiveCamp x = Bench.boys(boys, "pride 1", 0);
        Bench.weeks(x, "loop 9; any; end;");
        Draws draws = new Draws(seed);
        int missed = 0;
        int made = 0;
        Bench.given("live", x, x.live(seed), 10);
        for (int i = 0; i < 9; i++) {
            int one = draws.by(boys);
            int other = draws.by(boys);
            int grudge = draws.by(20);
            if (one == other) {
                missed++;
            } else {
                int q = made++;
                Bench.row("drawn by " + seed, x, w -> x.quarrel(q, w), one, other, grudge, 0);
            }
        }
        Bench.due("QUARRELS", x.told(1), made);
        Bench.row("lived", x, x::lived, missed, 0, 0, made, 0);
    }

    private static void means() {
        Bench.sentence("mean: how many QUARRELS are OPEN behind the WEEKS; all stays as it is");
        ForgiveCamp x = Bench.boys(4, "pride 5", 0, "ab");
        Bench.weeks(x, "any; any; any; yield a;");
        int open = 0;
        for (int seed = 40; seed < 60; seed++) {
            Draws draws = new Draws(seed);
            for (int i = 0; i < 3; i++) {
                int one = draws.by(4);
                int other = draws.by(4);
                draws.by(20);
                if (one != other && one != 0 && other != 0) open++;
            }
        }
        Bench.given("mean", x, x.mean(40, 20));
        Bench.due("of as many", x.top() * 20, open * x.bottom());
        Bench.due("QUARRELS", x.told(1), 1);
        Bench.due("OPEN", x.told(7), 1);
        Bench.due("YIELDED", x.boy(0, 6), 0);
        Bench.refused("nothing was LIVED", x, x.lived(0), 6);
        Bench.weeks(x, "yield a;");
        Bench.fraction("none", x, x.mean(0, 7), 0, 1);
        Bench.weeks(x, "quarrel c d 1;");
        Bench.fraction("two by each", x, x.mean(0, 20), 2, 1);
    }

    private static void missed() {
        Bench.sentence("MISSED: MINUTES beyond 9,999 (as a whole)");
        ForgiveCamp x = Bench.of(THREE);
        x.forgive(0);
        Bench.goTo(x, 9990);
        x.boot(0, 1, 99);
        goesOn(x, "minute 10;", 1, 1, 0, 0, 0, 0);
        Bench.due("it stays", x.told(5), 9990);
        goesOn(x, "minute 60; minute 9; minute 1;", 3, 2, 9, 1, 0, 0);
        Bench.due("to 9,999", x.told(5), 9999);

        Bench.sentence("MISSED: a quarrel of one with himself");
        lives("quarrel b b 3; quarrel a a 0;", 2, 2, 0, 0, 0, 0);
        Bench.sentence("MISSED: by any, too");
        ForgiveCamp one = Bench.boys(1, "pride 1", 0);
        goesOn(one, "loop 9; any; end;", 10, 9, 0, 0, 0, 0);
        Bench.due("QUARRELS", one.told(1), 0);

        Bench.sentence("MISSED: an 11th quarrel (those that are over count, too)");
        Bench.due("ten", lives("loop 10; quarrel a c 3; end;", 11, 1, 0, 0, 9, 0).told(1), 10);
        lives("yield a; loop 10; quarrel a c 3; end;", 12, 1, 0, 0, 9, 0);
        lives("yield a; loop 9; quarrel a c 3; end; dawn; quarrel a c 3; quarrel a c 3;", 14, 1, 0, 0, 10, 0);
        Bench.sentence("MISSED: an 11th by any, too, by three draws all the same");
        ForgiveCamp ten = Bench.boys(8, "pride 1", 0, "ab", "ab", "ab", "ab", "ab", "ab", "ab", "ab", "ab", "ab");
        goesOn(ten, "any; yield a; any; dawn; loop 10; any; end;", 15, 2 + selves(6, 10), 0, 0, 10 - selves(6, 10), 0);
        Draws draws = new Draws(0);
        for (int i = 0; i < 6; i++) draws.by(9);
        int first = draws.by(8);
        int second = draws.by(8);
        while (first == second) {
            draws.by(9);
            first = draws.by(8);
            second = draws.by(8);
        }
        Bench.row("the first behind dawn", ten, w -> ten.quarrel(0, w), first, second, draws.by(20), 0);

        Bench.sentence("MISSED: a yield of who is UP");
        lives("yield c; yield a; yield a; yield b;", 4, 3, 0, 0, 0, 0);
        Bench.sentence("MISSED: a pitch where he is");
        Bench.due("CELL", lives("pitch a 0; pitch a 11; pitch a 11; pitch a 0;", 4, 2, 0, 0, 0, 0).boy(0, 0), 0);
        Bench.sentence("MISSED: a dawn in MINUTE 0 of which no QUARREL is over");
        lives("dawn;", 1, 1, 0, 0, 0, 0);
        lives("minute 1; dawn; dawn;", 3, 1, 1, 0, 0, 0);
        Bench.due("QUARRELS", lives("yield a; dawn; dawn;", 3, 1, 0, 0, 0, 0).told(1), 0);
        lives("minute 9; dawn; dawn;", 3, 1, 9, 1, 0, 0);
        Bench.sentence("MISSED: any without BOYS");
        goesOn(new ForgiveCamp(), "any; any; minute 3; dawn; dawn;", 5, 3, 3, 0, 0, 0);
    }

    /** Of so many anys by eight BOYS and the seed 0, behind the first draws: how many are of one with himself. */
    private static int selves(int drawsAhead, int anys) {
        Draws draws = new Draws(0);
        for (int i = 0; i < drawsAhead; i++) draws.by(8);
        int selves = 0;
        for (int i = 0; i < anys; i++) {
            if (draws.by(8) == draws.by(8)) selves++;
            draws.by(20);
        }
        return selves;
    }

    private static void tests() {
        Bench.sentence("when TEST: up NAME");
        Bench.due("MINUTE", lives("when up a; minute 1; end; when up c; minute 2; end;", 3, 0, 2, 0, 0, 0).told(5), 2);
        Bench.due("MINUTE", lives("yield b; when up a; minute 1; end;", 3, 0, 1, 0, 0, 0).told(5), 1);
        Bench.sentence("open COMPARES NUMBER: < or > or =");
        lives("when open < 1; stop; end; when open > 1; stop; end; when open = 0; stop; end; when open = 2; stop; end;", 4, 0, 0, 0, 0, 0);
        lives("when open < 2; when open > 0; when open = 1; minute 1; end; end; end;", 4, 0, 1, 0, 0, 0);
        lives("yield a; when open > 0; stop; end; when open = 0; minute 1; end;", 4, 0, 1, 0, 0, 0);
        lives("loop 9; quarrel a b 50; end; when open = 10; when open > 9; when open < 10; stop; end; minute 1; end; end;", 14, 0, 1, 0, 9, 0);
        Bench.sentence("now COMPARES NUMBER: the MINUTE (0 to 9,999)");
        lives("minute 5; when now < 5; stop; end; when now > 5; stop; end; when now = 4; stop; end; when now = 5; minute 1; end;", 6, 0, 6, 0, 0, 0);
        lives("minute 5; when now < 6; when now > 4; dawn; when now = 0; minute 7; end; end; end;", 6, 0, 12, 0, 0, 0);
        ForgiveCamp x = Bench.of(THREE);
        Bench.goTo(x, 9999);
        goesOn(x, "when now = 9999; when now > 9998; when now < 9999; stop; end; pitch a 9; end; end;", 4, 0, 0, 0, 0, 0);
        Bench.sentence("when that does not hold goes on behind its own end");
        Bench.due("MINUTE", lives("when up a; when up a; minute 1; end; minute 2; end; minute 4;", 2, 0, 4, 0, 0, 0).told(5), 4);
        Bench.due("MINUTE", lives("when up c; when up a; minute 1; end; minute 2; end; minute 4;", 4, 0, 6, 0, 0, 0).told(5), 6);
    }

    private static void loops() {
        Bench.sentence("loop n (1 to 99): as often");
        lives("loop 1; minute 1; end;", 2, 0, 1, 0, 0, 0);
        lives("loop 99; minute 1; end;", 100, 0, 99, 1, 0, 0);
        Bench.sentence("loop within loops: each counts each time it is come to from ahead");
        lives("loop 3; loop 2; minute 1; end; end;", 1 + 3 + 6, 0, 6, 0, 0, 0);
        lives("loop 2; loop 3; loop 4; minute 1; end; end; minute 5; end;", 1 + 2 + 6 + 24 + 2, 0, 34, 1, 0, 0);
        lives("loop 99; end; loop 99; loop 2; end; end;", 1 + 1 + 99, 0, 0, 0, 0, 0);
        lives("loop 5; when up a; stop; end; minute 3; end;", 9, 0, 9, 1, 0, 0);

        Bench.sentence("At most 300 STEPS");
        Bench.due("the 300th is done, too", lives("loop 99; minute 1; dawn; minute 2; end; minute 5; dawn; minute 9;", 300, 0, 3 * 99 + 5, 0, 0, 1).told(5), 0);
        lives("loop 99; minute 1; minute 1; minute 1; end; minute 2; minute 3;", 300, 0, 302, 1, 0, 0);
        lives("loop 99; minute 1; minute 1; minute 1; end; minute 2; minute 3; minute 4;", 300, 0, 302, 1, 0, 1);
        Bench.sentence("end does not count");
        lives("loop 99; minute 1; minute 1; minute 1; end; minute 2; loop 99; end;", 300, 0, 299, 1, 0, 0);
        lives("loop 99; minute 1; minute 1; minute 1; end; minute 2; loop 99; minute 1; end;", 300, 0, 299, 1, 0, 1);
        lives("loop 99; minute 1; minute 1; minute 1; end; loop 2; minute 1; end;", 300, 0, 298, 1, 0, 1);
        lives("loop 99; minute 1; minute 1; minute 1; end; loop 1; minute 1; end;", 300, 0, 298, 1, 0, 0);
        lives("loop 99; loop 99; loop 99; end; end; end;", 300, 0, 0, 0, 0, 1);
        Bench.sentence("when counts, whether it holds or not");
        lives("loop 99; when up a; end; when up c; end; when up a; minute 1; end; end; dawn; dawn;", 300, 2, 0, 0, 0, 0);
        lives("loop 99; when up a; end; when up c; end; when up a; minute 1; end; end; dawn; when up a; dawn; end; dawn;", 300, 1, 0, 0, 0, 1);
        lives("loop 99; when up a; end; when up c; end; when up a; minute 1; end; end; dawn; when up a; dawn; end;", 300, 1, 0, 0, 0, 0);
        Bench.sentence("lived(4): 1 if a STEP was left to be done (by the 300 alone, not by stop)");
        lives("stop; minute 1;", 1, 0, 0, 0, 0, 0);
        lives("minute 1; stop; minute 1;", 2, 0, 1, 0, 0, 0);
        lives("loop 9; minute 1; stop; end;", 3, 0, 1, 0, 0, 0);
        lives("loop 99; minute 1; minute 1; minute 1; end; dawn; stop; dawn;", 300, 0, 297, 1, 0, 0);
        lives("loop 99; minute 1; minute 1; minute 1; end; dawn; dawn; stop;", 300, 1, 297, 1, 0, 1);
    }

    private static void lived() {
        Bench.sentence("LIVED from how all is now; what it comes to stays");
        ForgiveCamp x = lives("minute 4; pitch c 7; quarrel b c 80;", 3, 0, 4, 0, 1, 0);
        Bench.row("told", x, x::told, 3, 2, 4, 3, 4, 4, 0, 3, 83);
        Bench.due("CELL", x.boy(2, 0), 7);
        Bench.given("once more", x, x.live(0), 3);
        Bench.row("lived", x, x::lived, 1, 4, 0, 1, 0);
        Bench.due("MINUTE", x.told(5), 8);
        Bench.given("and a third time", x, x.live(0), 3);
        Bench.row("lived", x, x::lived, 1, 4, 1, 1, 0);

        Bench.sentence("lived: of the latest alone");
        x = lives("loop 99; quarrel a b 9; minute 15; dawn; end; dawn; dawn; dawn;", 300, 2, 1485, 100, 99, 1);
        goesOn(x, "stop;", 1, 0, 0, 0, 0, 0);

        Bench.sentence("lived: how many were MISSED, MINUTES, over by them (by no yield), new");
        lives("minute 60; quarrel a b 1; yield a; quarrel a b 1; minute 1; minute 0001; yield a;", 7, 1, 62, 2, 2, 0);

        Bench.sentence("lived: of live() latest with STATUS 0 (whatever came behind it)");
        x = lives("minute 7; dawn; dawn;", 3, 1, 7, 0, 0, 0);
        x.live(-1);
        Bench.row("behind STATUS 1", x, x::lived, 1, 7, 0, 0, 0);
        x.mean(0, 20);
        Bench.weeks(x, "dawn;");
        x.mark();
        x.undo();
        x.camp(0);
        x.live(0);
        Bench.row("behind mean, weeks, undo, camp and STATUS 6", x, x::lived, 1, 7, 0, 0, 0);
        Bench.sentence("lived: 1; 6: there was none");
        for (int what : new int[] {-1, 5, Integer.MIN_VALUE, Integer.MAX_VALUE}) Bench.refused("lived", x, x.lived(what), 1);
        ForgiveCamp y = Bench.of(THREE);
        Bench.refused("1 comes first", y, y.lived(5), 1);
        Bench.refused("lived", y, y.lived(4), 6);
        Bench.weeks(y, "dawn;");
        y.mean(0, 1);
        y.live(-1);
        Bench.refused("lived", y, y.lived(0), 6);
        y.mark();
        y.live(0);
        y.undo();
        Bench.given("it is not taken back", y, y.lived(0), 1);
    }

    private static void marks() {
        Bench.sentence("MARKS, at most 3");
        ForgiveCamp x = Bench.of(THREE);
        for (int round = 0; round < 2; round++) {
            for (int i = 1; i <= 3; i++) {
                Bench.given("mark", x, x.mark(), i);
                x.minute(1);
            }
            Bench.refused("a fourth", x, x.mark(), 4);
            for (int i = 2; i >= 0; i--) {
                Bench.given("undo", x, x.undo(), i);
                Bench.due("the latest", x.told(5), i);
            }
            Bench.refused("none left", x, x.undo(), 6);
        }

        Bench.sentence("the CAMP with all that became of it, the WEEKS are kept as they are");
        Bench.weeks(x, "quarrel a c 7; minute 9; stop;");
        x.boot(2, 1, 44);
        x.pitch(2, 8);
        x.teach(2, 1, 20);
        x.teach(2, 2, 8);
        x.teach(2, 3, 0);
        x.rule(11);
        x.minute(9);
        x.come(9, 17);
        Bench.given("mark", x, x.mark(), 1);
        Bench.given("live", x, x.live(0), 3);
        x.stir(1, 2);
        x.forgive(2);
        x.dawn();
        x.pitch(2, 0);
        x.teach(2, 1, 1);
        x.teach(2, 2, 1);
        x.teach(2, 3, 9);
        x.rule(0);
        x.come(0, 1);
        Bench.camp(x, "field 2 by 2; odds 3; boy a at 1 pride 2; boy e at 1 pride 2; quarrel e a grudge 8;");
        Bench.weeks(x, "dawn;");
        Bench.given("undo", x, x.undo(), 0);
        Bench.row("told", x, x::told, 4, 2, 4, 3, 11, 9, 1 + 8, 2, 44);
        Bench.row("boy 2", x, w -> x.boy(2, w), 8, 20, 8, 0, 0, 1, 0);
        Bench.row("boy 3", x, w -> x.boy(3, w), 9, 17, 1, 2, 1, 0, 0);
        Bench.row("YIELDED", x, b -> x.boy(b, 6), 1, 0, 0, 0);
        Bench.row("quarrel 0", x, w -> x.quarrel(0, w), 0, 1, 3, 1);
        Bench.row("quarrel 1", x, w -> x.quarrel(1, w), 2, 1, 44, 0);
        Bench.row("near", x, x::near, 2 + 4, 1 + 8, 0, 2 + 4);
        Bench.given("its WEEKS", x, x.live(0), 3);
        Bench.row("lived", x, x::lived, 0, 9, 1, 1, 0);
        Bench.given("its NAMES", x, Bench.weeks(x, "yield a; yield b; yield c;"), 3);
        Bench.refused("one who came has none", x, Bench.weeks(x, "yield d;"), 9);

        Bench.sentence("a MARK of no WEEKS");
        x.camp(0);
        x.mark();
        Bench.weeks(x, "any;");
        Bench.given("live", x, x.live(0), 1);
        x.undo();
        Bench.refused("live", x, x.live(0), 6);
        Bench.sentence("a MARK outlasts a CAMP that is taken");
        x.mark();
        Bench.camp(x, THREE);
        Bench.given("one more", x, x.mark(), 2);
        x.camp(0);
        Bench.given("undo", x, x.undo(), 1);
        Bench.due("BOYS", x.told(0), 3);
        Bench.given("undo", x, x.undo(), 0);
        Bench.due("BOYS", x.told(0), 0);
    }

    public static void main(String[] args) {
        noWeeks();
        seeds();
        means();
        missed();
        tests();
        loops();
        lived();
        marks();
        Bench.end("WeeksTests");
    }
}
