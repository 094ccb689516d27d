/** The sentences on FITS, ASK, WARS, GAMES, NIGHTS and FRACTIONS that name an edge: one test each. */
public final class SeenTests {
    private static void put(ForgiveCamp x, int tray, long... numbers) {
        for (int i = 0; i < numbers.length; i++) x.write(tray, i, numbers[i]);
    }

    private static void fits() {
        // a is UP behind his PRIDE and one MINUTES, as long as that is ahead of b's 30 and one.
        ForgiveCamp x = Bench.boys(3, "pride 30 soft 0", 0, "ab");
        x.teach(0, 1, 7);
        x.tray(0, 1, 60);
        Bench.sentence("FITS: which PRIDES (1 to 30), in place of his own");
        put(x, 0, 0, 2);
        Bench.given("the least PRIDE", x, x.fits(0, 0, 1), 1);
        Bench.given("it", x, x.fitsAt(0, 0, 1, 0), 1);
        Bench.given("it", x, x.fitsAt(0, 0, 1, 1), 1);
        put(x, 0, 0, 31);
        Bench.given("the greatest PRIDE", x, x.fits(0, 0, 1), 1);
        Bench.given("it", x, x.fitsAt(0, 0, 1, 0), 30);
        Bench.given("it", x, x.fitsAt(0, 0, 1, 1), 30);
        put(x, 0, 0, 1);
        Bench.given("PRIDE 0 is none", x, x.fits(0, 0, 1), 0);
        put(x, 0, 0, 32);
        Bench.given("PRIDE 31 is none", x, x.fits(0, 0, 1), 0);
        Bench.due("his own stays", x.boy(0, 1), 7);
        Bench.given("all", x, x.fits(0, 0, 0), 30);
        Bench.given("the least of all", x, x.fitsAt(0, 0, 0, 0), 1);
        Bench.given("the greatest of all", x, x.fitsAt(0, 0, 0, 1), 30);

        Bench.sentence("FITS: by twos a BOY and how many MINUTES (0 to 200)");
        put(x, 0, 2, 0);
        Bench.given("0", x, x.fits(0, 0, 1), 30);
        put(x, 0, 2, 200);
        Bench.given("200", x, x.fits(0, 0, 1), 0);
        for (long v : new long[] {-1, 201, 32767, -32768}) {
            put(x, 0, 2, v);
            Bench.refused("fits", x, x.fits(0, 0, 1), 5);
            Bench.refused("fitsAt", x, x.fitsAt(0, 0, 1, 0), 5);
            Bench.refused("ask", x, x.ask(0, 0, 1), 5);
        }
        for (long b : new long[] {-1, 3, 32767, -32768}) {
            put(x, 0, b, 0);
            Bench.refused("fits", x, x.fits(0, 0, 1), 5);
            Bench.refused("fitsAt", x, x.fitsAt(0, 0, 1, 1), 5);
            Bench.refused("ask", x, x.ask(0, 0, 1), 5);
        }
        x.tray(1, 3, 2);
        for (long b : new long[] {1L << 32, Long.MIN_VALUE, Long.MAX_VALUE}) {
            put(x, 1, b, 0);
            Bench.refused("64 bits: a BOY", x, x.fits(0, 1, 1), 5);
            put(x, 1, 0, b);
            Bench.refused("64 bits: MINUTES", x, x.fits(0, 1, 1), 5);
        }

        Bench.sentence("FITS: the first n (0 to 20) twos, for all twos");
        for (int i = 0; i < 20; i++) {
            x.write(0, 2 * i, 0);
            x.write(0, 2 * i + 1, 8);
        }
        put(x, 1, 0, 8);
        x.write(0, 40, -1);
        Bench.given("20", x, x.fits(0, 0, 20), 1);
        Bench.refused("21", x, x.fits(0, 0, 21), 1);
        Bench.refused("-1", x, x.fits(0, 0, -1), 1);
        Bench.refused("fitsAt 21", x, x.fitsAt(0, 0, 21, 0), 1);
        Bench.refused("ask 21", x, x.ask(0, 0, 21), 1);
        Bench.refused("fitsAt -1", x, x.fitsAt(0, 0, -1, 0), 1);
        Bench.refused("ask -1", x, x.ask(0, 0, -1), 1);
        x.write(0, 39, 9);
        Bench.given("the last does not agree", x, x.fits(0, 0, 20), 0);
        Bench.given("without the last", x, x.fits(0, 0, 19), 1);
        x.write(0, 39, 201);
        Bench.refused("the last can't be", x, x.fits(0, 0, 20), 5);
        Bench.given("without the last", x, x.fits(0, 0, 19), 1);

        Bench.sentence("FITS: 3: too few numbers");
        Bench.given("just enough", x, x.fits(0, 1, 1), 1);
        Bench.refused("two more", x, x.fits(0, 1, 2), 3);
        x.tray(1, 3, 3);
        Bench.refused("one more", x, x.fits(0, 1, 2), 3);
        Bench.refused("fitsAt", x, x.fitsAt(0, 1, 2, 0), 3);
        Bench.refused("ask", x, x.ask(0, 1, 2), 3);
        x.tray(1, 3, 39);
        Bench.refused("39", x, x.fits(0, 1, 20), 3);

        Bench.sentence("fitsAt: the least (what 0), the greatest (1); 6: none");
        Bench.refused("what -1", x, x.fitsAt(0, 0, 0, -1), 1);
        Bench.refused("what 2", x, x.fitsAt(0, 0, 0, 2), 1);
        put(x, 0, 0, 1);
        Bench.refused("none", x, x.fitsAt(0, 0, 1, 0), 6);
        Bench.refused("none", x, x.fitsAt(0, 0, 1, 1), 6);

        Bench.sentence("FITS: UP first behind just so many MINUTES from now");
        ForgiveCamp y = Bench.boys(2, "pride 30 soft 0", 0, "ab");
        y.minute(10);
        y.tray(0, 0, 2);
        put(y, 0, 0, 1);
        Bench.given("1 to 10 are DUE at once", y, y.fits(0, 0, 1), 10);
        Bench.given("the greatest", y, y.fitsAt(0, 0, 1, 1), 10);
        put(y, 0, 0, 2);
        Bench.given("11 alone", y, y.fits(0, 0, 1), 1);
        Bench.given("the least", y, y.fitsAt(0, 0, 1, 0), 11);
    }

    private static void asking() {
        Bench.sentence("ASK: 6: fewer than two fit");
        ForgiveCamp x = Bench.boys(3, "pride 29 soft 0", 0, "ab");
        x.tray(0, 0, 2);
        put(x, 0, 0, 5);
        Bench.refused("one fits", x, x.ask(0, 0, 1), 6);
        put(x, 0, 0, 40);
        Bench.refused("none fits", x, x.ask(0, 0, 1), 6);
        put(x, 0, 0, 30);
        Bench.given("29 and 30 fit", x, x.ask(0, 0, 1), 0);

        Bench.sentence("ASK: the most by which he is UP first behind as many are the fewest; of several the first");
        Bench.given("a and b part all, a is the first", x, x.ask(0, 0, 0), 0);
        Bench.given("of b's PRIDES, too", x, x.ask(1, 0, 0), 0);
        Bench.given("of c's none parts", x, x.ask(2, 0, 0), 0);
        // Two PRIDES fit, and only one BOY in the middle and one behind him are UP sooner by one of them.
        String chain = "boy a at 0 pride %d soft 0; boy b at 0 pride 7 soft 0; boy c at 0 pride 30 soft 0; quarrel a b grudge 0; quarrel c b grudge %d;";
        ForgiveCamp most = Bench.of(String.format(chain, 29, 0));
        most.tray(0, 0, 2);
        put(most, 0, 0, 30);
        Bench.given("29 and 30 fit", most, most.fits(1, 0, 1), 2);
        Bench.given("b parts them, a does not", most, most.ask(1, 0, 1), 1);
        ForgiveCamp least = Bench.of(String.format(chain, 29, 5));
        least.minute(2);
        least.tray(0, 0, 2);
        put(least, 0, 0, 1);
        Bench.given("1 and 2 fit", least, least.fits(1, 0, 1), 2);
        Bench.given("b parts them, a does not", least, least.ask(1, 0, 1), 1);
        // a is UP whatever PRIDE c has: the first who parts them is not the first BOY.
        ForgiveCamp y = Bench.boys(3, "pride 29 soft 0", 0, "cb");
        y.tray(0, 0, 0);
        Bench.given("b is the first of b and c", y, y.ask(2, 0, 0), 1);
        Bench.given("of a's PRIDES none parts", y, y.ask(0, 0, 0), 0);
        // By each PRIDE of b that a is UP with c at last, so it is b who parts them.
        ForgiveCamp z = Bench.of("boy a at 0 pride 30 soft 0; boy b at 0 pride 20 soft 0; boy c at 0 pride 30 soft 0; quarrel a b grudge 0; quarrel a c grudge 9;");
        z.tray(0, 0, 0);
        Bench.given("a by a's PRIDES", z, z.ask(0, 0, 0), 0);
        Bench.given("b parts 30 PRIDES of his own, a none", z, z.ask(1, 0, 0), 1);
    }

    private static void wars() {
        Bench.sentence("WAR of a QUARREL to n (0 to 20)");
        ForgiveCamp x = Bench.boys(2, "pride 1", 0, "ab", "ab", "ab", "ab", "ab");
        int[] grudges = {0, 1, 19, 20, 99};
        for (int q = 0; q < 5; q++) x.stir(q, grudges[q]);
        for (int n : new int[] {-1, 21, Integer.MIN_VALUE, Integer.MAX_VALUE}) {
            Bench.refused("rests", x, x.rests(0, n), 1);
            Bench.refused("restAt", x, x.restAt(0, n, 0, 0), 1);
        }
        Bench.row("to 0", x, q -> x.rests(q, 0), 1, 1, 1, 1, 1);
        Bench.row("to 1", x, q -> x.rests(q, 1), 3, 2, 2, 2, 2);
        Bench.row("to 19", x, q -> x.rests(q, 19), 39, 38, 2, 2, 2);
        Bench.row("to 20", x, q -> x.rests(q, 20), 41, 40, 4, 2, 2);

        Bench.sentence("RESTS: neither would have more by another choice of his alone");
        Bench.row("0 and 0 alone: the first one's", x, k -> x.restAt(0, 0, k, 0), 0);
        Bench.row("GRUDGE 19 to 20: the first one's", x, k -> x.restAt(2, 20, k, 0), 0, 0, 19, 20);
        Bench.row("GRUDGE 19 to 20: the second one's", x, k -> x.restAt(2, 20, k, 1), 19, 20, 0, 0);
        Bench.row("GRUDGE 0 to 2: the first one's", x, k -> x.restAt(0, 2, k, 0), 0, 0, 0, 1, 2);
        Bench.row("GRUDGE 0 to 2: the second one's", x, k -> x.restAt(0, 2, k, 1), 0, 1, 2, 0, 0);

        Bench.sentence("restAt: the k-th, from 0 on (1: k below 0, too; 6: no such)");
        Bench.refused("k -1", x, x.restAt(2, 20, -1, 0), 1);
        Bench.refused("the least k", x, x.restAt(2, 20, Integer.MIN_VALUE, 0), 1);
        Bench.refused("behind the last", x, x.restAt(2, 20, 4, 0), 6);
        Bench.refused("behind the last", x, x.restAt(2, 20, 4, 1), 6);
        Bench.refused("the greatest k", x, x.restAt(2, 20, Integer.MAX_VALUE, 1), 6);
        Bench.refused("what -1", x, x.restAt(2, 20, 0, -1), 1);
        Bench.refused("what 2", x, x.restAt(2, 20, 0, 2), 1);
        Bench.refused("what 2 of none", x, x.restAt(2, 20, 4, 2), 1);
        Bench.given("the last of 41", x, x.restAt(0, 20, 40, 0), 20);
        Bench.refused("a 42nd", x, x.restAt(0, 20, 41, 0), 6);

        Bench.sentence("WAR: of one that is over, too");
        x.forgive(0);
        Bench.given("rests", x, x.rests(2, 20), 4);
        Bench.refused("no QUARREL 5", x, x.rests(5, 1), 1);
        Bench.refused("no QUARREL -1", x, x.rests(-1, 1), 1);
        Bench.refused("no QUARREL 5", x, x.restAt(5, 1, 0, 0), 1);
    }

    private static void games() {
        // One pair is UP behind 9, the other one behind 21 MINUTES.
        String two = "boy a at 0 pride 5 soft 0; boy b at 0 pride 30 soft 0; boy c at 0 pride 17 soft 0; boy d at 0 pride 30 soft 0; quarrel a b grudge 3; quarrel d c grudge 3;";
        ForgiveCamp x = Bench.of(two);
        Bench.sentence("GAME of n turns (0 to 3), the eager one first");
        Bench.row("game", x, x::game, 21, 9, 18, 0);
        for (int n : new int[] {-1, 4, Integer.MIN_VALUE, Integer.MAX_VALUE}) {
            Bench.refused("game", x, x.game(n), 1);
            Bench.refused("moveOf", x, x.moveOf(n), 1);
        }
        Bench.sentence("moveOf: 1: turns 0, too");
        Bench.refused("moveOf(0)", x, x.moveOf(0), 1);
        Bench.sentence("MOVE: of all that are as good the first");
        Bench.given("of one turn", x, x.moveOf(1), 1);
        Bench.given("of two", x, x.moveOf(2), 1);
        Bench.given("of three either is as good", x, x.moveOf(3), 0);
        Bench.sentence("MOVE: nothing comes last (6: nothing)");
        ForgiveCamp alike = Bench.boys(4, "pride 9 soft 0", 3, "ab", "cd");
        Bench.given("to end one is as good as nothing", alike, alike.moveOf(1), 0);
        Bench.given("game", alike, alike.game(1), 13);
        alike.forgive(0);
        Bench.given("the first that is OPEN", alike, alike.moveOf(1), 1);
        alike.forgive(2);
        for (int n = 1; n < 4; n++) Bench.refused("all are UP", alike, alike.moveOf(n), 6);
        Bench.row("game", alike, alike::game, 0, 0, 0, 0);
        ForgiveCamp none = new ForgiveCamp();
        Bench.row("without BOYS", none, none::game, 0, 0, 0, 0);
        Bench.refused("without BOYS", none, none.moveOf(1), 6);

        Bench.sentence("the proud one: its GRUDGE grows by 9, 99 at most");
        ForgiveCamp y = Bench.boys(4, "pride 1 soft 0", 3, "ab", "cd");
        long[][] grown = {{89, 98 + 2}, {90, 99 + 2}, {91, 99 + 2}, {99, 99 + 2}};
        for (long[] g : grown) {
            y.stir(0, (int) g[0]);
            y.stir(1, (int) g[0]);
            Bench.given("of " + g[0], y, y.game(2), g[1]);
        }
        Bench.row("nothing stays of it", y, q -> y.quarrel(q, 2), 99, 99);
        Bench.due("all are OPEN", y.told(7), 3);
        Bench.due("none has YIELDED", y.boy(0, 6), 0);
    }

    private static void odds() {
        ForgiveCamp x = Bench.boys(3, "pride 1", 0, "ab", "ab");
        Bench.sentence("NIGHT: the odds that k (0 to 10) or fewer stay OPEN");
        x.rule(4);
        Bench.fraction("night(0)", x, x.night(0), 1, 16);
        Bench.fraction("night(1)", x, x.night(1), 7, 16);
        Bench.fraction("night(2)", x, x.night(2), 1, 1);
        Bench.fraction("night(10)", x, x.night(10), 1, 1);
        for (int k : new int[] {-1, 11, Integer.MIN_VALUE, Integer.MAX_VALUE}) Bench.refused("night", x, x.night(k), 1);
        Bench.due("the FRACTION stays", x.top() + x.bottom(), 2);
        Bench.sentence("wakes: the odds that a BOY is UP behind such a NIGHT");
        Bench.fraction("wakes(0)", x, x.wakes(0), 1, 16);
        Bench.fraction("one who is UP", x, x.wakes(2), 1, 1);
        Bench.refused("BOY 3", x, x.wakes(3), 1);
        Bench.refused("BOY -1", x, x.wakes(-1), 1);

        Bench.sentence("FRACTIONS: 0 is 0 by 1");
        Bench.due("at first", new ForgiveCamp().top(), 0);
        Bench.due("at first", new ForgiveCamp().bottom(), 1);
        x.rule(0);
        Bench.fraction("night(0)", x, x.night(0), 0, 1);
        Bench.fraction("night(1)", x, x.night(1), 0, 1);
        Bench.fraction("night(2)", x, x.night(2), 1, 1);
        Bench.fraction("wakes(0)", x, x.wakes(0), 0, 1);
        Bench.fraction("one who is UP", x, x.wakes(2), 1, 1);
        Bench.sentence("ODDS 16: all are ended");
        x.rule(16);
        Bench.fraction("night(0)", x, x.night(0), 1, 1);
        Bench.fraction("wakes(0)", x, x.wakes(0), 1, 1);

        Bench.sentence("FRACTIONS without a common divisor");
        x.rule(12);
        Bench.fraction("night(0)", x, x.night(0), 9, 16);
        Bench.fraction("night(1)", x, x.night(1), 15, 16);
        x.rule(15);
        Bench.fraction("night(0)", x, x.night(0), 225, 256);
        x.rule(8);
        Bench.fraction("night(1)", x, x.night(1), 3, 4);

        Bench.sentence("NIGHT of ten");
        ForgiveCamp ten = Bench.boys(2, "pride 1", 0, "ab", "ab", "ab", "ab", "ab", "ab", "ab", "ab", "ab", "ab");
        ten.rule(1);
        Bench.fraction("night(0)", ten, ten.night(0), 1, 1L << 40);
        Bench.fraction("wakes(0)", ten, ten.wakes(0), 1, 1L << 40);
        long nine = 576650390625L;
        Bench.fraction("night(9)", ten, ten.night(9), (1L << 40) - nine, 1L << 40);
        Bench.fraction("night(10)", ten, ten.night(10), 1, 1);
        ten.rule(8);
        Bench.fraction("night(5)", ten, ten.night(5), 638 / 2, 1024 / 2);
        Bench.sentence("NIGHT: none OPEN");
        ten.forgive(0);
        Bench.fraction("night(0)", ten, ten.night(0), 1, 1);
        ForgiveCamp none = new ForgiveCamp();
        Bench.fraction("without BOYS", none, none.night(0), 1, 1);
    }

    private static void yields() {
        Bench.sentence("copyYields: one by one: how many BOYS (1; 2; 3)");
        ForgiveCamp x = Bench.boys(3, "pride 1", 0, "ab", "ab", "bc");
        x.forgive(1);
        x.boot(2, 0, 9);
        x.forgive(2);
        x.tray(0, 0, 3);
        x.tray(1, 0, 2);
        x.tray(2, 3, 4);
        x.write(2, 3, 77);
        Bench.given("just enough", x, x.copyYields(0), 3);
        Bench.row("YIELDED", x, p -> x.read(0, p), 0, 3, 1);
        Bench.refused("one too few", x, x.copyYields(1), 3);
        Bench.row("it stays", x, p -> x.read(1, p), 0, 0);
        Bench.given("more than enough", x, x.copyYields(2), 3);
        Bench.row("the rest stays", x, p -> x.read(2, p), 0, 3, 1, 77);
        Bench.refused("MISSING", x, x.copyYields(3), 2);
        Bench.refused("no such", x, x.copyYields(4), 1);
        Bench.refused("no such", x, x.copyYields(-1), 1);
        ForgiveCamp none = new ForgiveCamp();
        none.tray(0, 0, 0);
        Bench.given("without BOYS", none, none.copyYields(0), 0);
    }

    public static void main(String[] args) {
        fits();
        asking();
        wars();
        games();
        odds();
        yields();
        Bench.end("SeenTests");
    }
}
