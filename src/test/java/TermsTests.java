/** The sentences of "Terms", sections 2 and 3, that name an edge: one test each. */
public final class TermsTests {
    private static final int NONE = ForgiveCamp.NONE;

    private static void trays() {
        Bench.sentence("TRAYS 0 to 3");
        ForgiveCamp x = Bench.of("boy a at 0 pride 1;");
        for (int t : new int[] {-1, 4, Integer.MIN_VALUE, Integer.MAX_VALUE}) {
            Bench.refused("tray", x, x.tray(t, 0, 1), 1);
            Bench.refused("write", x, x.write(t, 0, 1), 1);
            Bench.refused("read", x, x.read(t, 0), 1);
            Bench.refused("copyYields", x, x.copyYields(t), 1);
            Bench.refused("fits", x, x.fits(0, t, 0), 1);
        }
        for (int t = 0; t < 4; t++) Bench.given("tray", x, x.tray(t, 0, 1));

        Bench.sentence("are MISSING at first");
        x = Bench.of("boy a at 0 pride 1;");
        for (int t = 0; t < 4; t++) {
            Bench.refused("read", x, x.read(t, 0), 2);
            Bench.refused("write", x, x.write(t, 0, 1), 2);
            Bench.refused("pour", x, x.pour(t, 0, t, 0, 0), 2);
            Bench.refused("copyYields", x, x.copyYields(t), 2);
            Bench.refused("fits", x, x.fits(0, t, 0), 2);
        }

        Bench.sentence("rows of 0 numbers");
        Bench.given("tray", x, x.tray(0, 3, 0));
        Bench.refused("read", x, x.read(0, 0), 3);
        Bench.refused("write", x, x.write(0, 0, 1), 3);
        Bench.given("pour nothing", x, x.pour(0, 0, 0, 0, 0));
        Bench.refused("pour one", x, x.pour(0, 0, 0, 0, 1), 3);
        Bench.refused("copyYields", x, x.copyYields(0), 3);
        Bench.given("fits by none", x, x.fits(0, 0, 0), 30);

        Bench.sentence("rows of 60 numbers");
        for (int t = 0; t < 4; t++) Bench.given("tray", x, x.tray(t, 3, 60));
        for (int t = 0; t < 4; t++) for (int p : new int[] {0, 59}) x.write(t, p, 100 * t + p);
        for (int t = 0; t < 4; t++) {
            for (int p : new int[] {0, 59}) Bench.given("read", x, x.read(t, p), 100 * t + p);
            Bench.refused("read", x, x.read(t, 60), 3);
            Bench.refused("write", x, x.write(t, 60, 7), 3);
        }
        Bench.refused("61", x, x.tray(0, 3, 61), 1);
        Bench.refused("-1", x, x.tray(0, 3, -1), 1);
        Bench.given("it stays", x, x.read(0, 59), 59);

        Bench.sentence("numbers of 8 bits (sort 0), 16 (1), 32 (2) or 64 (3)");
        Bench.refused("sort -1", x, x.tray(0, -1, 1), 1);
        Bench.refused("sort 4", x, x.tray(0, 4, 1), 1);
        for (int sort = 0; sort < 4; sort++) {
            x.tray(0, sort, 1);
            long most = Long.MAX_VALUE >> (64 - (8 << sort));
            long least = -most - 1;
            long[] kept = {0, 1, -1, most, least, most - 1, least + 1};
            for (long v : kept) {
                Bench.given("write", x, x.write(0, 0, v));
                Bench.given("read of sort " + sort, x, x.read(0, 0), v);
            }
            x.write(0, 0, most + 1);
            Bench.given("one above wraps, sort " + sort, x, x.read(0, 0), least);
            x.write(0, 0, least - 1);
            Bench.given("one below wraps, sort " + sort, x, x.read(0, 0), most);
            x.write(0, 0, 2 * most + 2);
            Bench.given("twice as many wrap to 0, sort " + sort, x, x.read(0, 0), 0);
            x.write(0, 0, 2 * most + 9);
            Bench.given("and seven more, sort " + sort, x, x.read(0, 0), 7);
        }

        Bench.sentence("A TRAY is a row of so many 0s: of one that was there, too");
        x.tray(1, 1, 3);
        for (int p = 0; p < 3; p++) x.write(1, p, 9);
        x.tray(1, 2, 2);
        for (int p = 0; p < 2; p++) Bench.given("read", x, x.read(1, p), 0);
        Bench.refused("shorter now", x, x.read(1, 2), 3);
        x.write(1, 0, 70000);
        Bench.given("of the new sort", x, x.read(1, 0), 70000);
        x.tray(1, 1, 3);
        for (int p = 0; p < 3; p++) Bench.given("longer again", x, x.read(1, p), 0);
    }

    private static void pouring() {
        Bench.sentence("pour: so many numbers from a place on come to another one's place on");
        ForgiveCamp x = new ForgiveCamp();
        x.tray(0, 3, 60);
        x.tray(1, 3, 60);
        for (int p = 0; p < 60; p++) x.write(0, p, p + 1);
        Bench.given("a full TRAY", x, x.pour(0, 0, 1, 0, 60));
        for (int p = 0; p < 60; p++) Bench.due("poured", x.read(1, p), p + 1);
        Bench.given("the last to the first", x, x.pour(0, 59, 1, 0, 1));
        Bench.due("it", x.read(1, 0), 60);
        Bench.due("the one behind it", x.read(1, 1), 2);
        Bench.given("the first to the last", x, x.pour(0, 0, 1, 59, 1));
        Bench.due("it", x.read(1, 59), 1);
        Bench.due("the one ahead of it", x.read(1, 58), 59);
        Bench.given("nothing from behind the last", x, x.pour(0, 60, 1, 60, 0));
        Bench.refused("one from there", x, x.pour(0, 60, 1, 0, 1), 3);
        Bench.refused("one to there", x, x.pour(0, 0, 1, 60, 1), 3);
        Bench.refused("nothing from beyond", x, x.pour(0, 61, 1, 0, 0), 3);
        Bench.refused("nothing to beyond", x, x.pour(0, 0, 1, 61, 0), 3);
        Bench.refused("61", x, x.pour(0, 0, 1, 0, 61), 3);
        Bench.refused("a sum that wraps", x, x.pour(0, Integer.MAX_VALUE, 1, 1, Integer.MAX_VALUE), 3);
        Bench.refused("a sum that wraps", x, x.pour(0, 1, 1, Integer.MAX_VALUE, Integer.MAX_VALUE), 3);

        Bench.sentence("pour: (or its own) .. as they were");
        Bench.given("one on", x, x.pour(0, 0, 0, 1, 59));
        for (int p = 0; p < 60; p++) Bench.due("moved on", x.read(0, p), Math.max(1, p));
        Bench.given("two back", x, x.pour(0, 2, 0, 0, 58));
        for (int p = 0; p < 60; p++) Bench.due("moved back", x.read(0, p), Math.min(p + 2, p < 58 ? 99 : p));
        Bench.given("onto itself", x, x.pour(0, 0, 0, 0, 60));
        Bench.due("it stays", x.read(0, 0), 2);

        Bench.sentence("pour: 1: below 0, too; 2; 8; 3; asked in this order");
        x.tray(1, 2, 1);
        Bench.refused("1 ahead of 2: from", x, x.pour(-1, 0, 3, 0, 0), 1);
        Bench.refused("1 ahead of 2: to", x, x.pour(3, 0, 4, 0, 0), 1);
        Bench.refused("1 ahead of 2: place", x, x.pour(3, -1, 3, 0, 0), 1);
        Bench.refused("1 ahead of 2: at", x, x.pour(3, 0, 3, -1, 0), 1);
        Bench.refused("1 ahead of 2: many", x, x.pour(3, 0, 3, 0, -1), 1);
        Bench.refused("1 ahead of 8 and 3", x, x.pour(0, 99, 1, 99, -1), 1);
        Bench.refused("the least number", x, x.pour(0, Integer.MIN_VALUE, 0, 0, 0), 1);
        Bench.refused("2 ahead of 3: from", x, x.pour(3, 99, 0, 99, 99), 2);
        Bench.refused("2 ahead of 3: to", x, x.pour(0, 99, 3, 99, 99), 2);
        Bench.refused("8 ahead of 3", x, x.pour(0, 99, 1, 99, 99), 8);
        Bench.refused("8 of nothing, too", x, x.pour(0, 0, 1, 0, 0), 8);
        Bench.refused("3", x, x.pour(1, 0, 1, 1, 1), 3);
    }

    private static void fields() {
        Bench.sentence("FIELD: so WIDE (1 to 6), so HIGH (1 to 6): CELL 0 .. row by row");
        for (int wide = 1; wide <= 6; wide++) {
            for (int high = 1; high <= 6; high++) {
                int last = wide * high - 1;
                ForgiveCamp x = Bench.of("field " + wide + " by " + high + "; boy a at 0 pride 1; boy b at " + last + " pride 1;");
                Bench.due("WIDE", x.told(2), wide);
                Bench.due("HIGH", x.told(3), high);
                Bench.due("from corner to corner", x.far(0, 1), wide - 1 + high - 1);
                Bench.refused("come beyond", x, x.come(last + 1, 1), 1);
                Bench.refused("pitch beyond", x, x.pitch(0, last + 1), 1);
                Bench.given("come to the last", x, x.come(last, 1), 2);
                if (last > 0) Bench.given("pitch to the last", x, x.pitch(0, last), 0);
            }
        }

        Bench.sentence("4 without; 3 without");
        ForgiveCamp x = Bench.of("boy a at 11 pride 1; boy b at 3 pride 1; boy c at 4 pride 1; boy d at 0 pride 1;");
        Bench.row("told", x, i -> x.told(i + 2), 4, 3);
        Bench.refused("no CELL 12", x, x.pitch(0, 12), 1);
        Bench.refused("no CELL -1", x, x.pitch(0, -1), 1);

        Bench.sentence("steps from CELL to CELL with a side in common");
        Bench.due("the end of a row and the beginning of the next", x.far(1, 2), 4);
        Bench.due("the other way", x.far(2, 1), 4);
        Bench.due("one above the other", x.far(2, 3), 1);
        Bench.due("from corner to corner", x.far(0, 3), 5);
        x.pitch(2, 5);
        Bench.due("by a corner", x.far(2, 3), 2);

        Bench.sentence("0 in one CELL");
        x.pitch(2, 11);
        Bench.given("far", x, x.far(0, 2), 0);
        Bench.given("from himself", x, x.far(0, 0), 0);
    }

    private static void leastAndGreatest() {
        Bench.sentence("ODDS (0 to 16; 4 without)");
        Bench.due("0", Bench.of("odds 0;").told(4), 0);
        Bench.due("16", Bench.of("odds 16;").told(4), 16);
        Bench.due("without", Bench.of("field 4 by 3;").told(4), 4);
        ForgiveCamp x = Bench.of("odds 9;");
        for (int odds : new int[] {-1, 17, Integer.MIN_VALUE, Integer.MAX_VALUE}) Bench.refused("rule", x, x.rule(odds), 1);
        Bench.due("they stay", x.told(4), 9);
        for (int odds : new int[] {0, 16}) {
            Bench.given("rule", x, x.rule(odds));
            Bench.due("ODDS", x.told(4), odds);
        }

        Bench.sentence("BOYS, at most 8");
        ForgiveCamp eight = Bench.boys(8, "pride 1", 0, "ah");
        Bench.due("eight", eight.told(0), 8);
        Bench.due("UP", eight.told(6), 126);
        Bench.refused("a ninth", eight, eight.come(0, 1), 4);
        Bench.refused("BOY 8", eight, eight.boy(8, 0), 1);
        Bench.given("BOY 7", eight, eight.boy(7, 1), 1);

        Bench.sentence("AT a CELL (several may be at one)");
        for (int b = 0; b < 8; b++) Bench.due("AT", eight.boy(b, 0), 0);
        Bench.due("near", eight.near(3), 255 - 8);

        Bench.sentence("PRIDE (1 to 30), SOFT (0 to 9; 1 without), EARS (0 to 9; 2 without)");
        ForgiveCamp four = Bench.of("boy a at 0 pride 1 soft 0 ears 0; boy b at 0 pride 30 soft 9 ears 9; boy c at 0 pride 2 soft 3;"
            + "boy d at 0 pride 4 ears 5; boy e at 0 pride 6;");
        long[][] told = {{1, 0, 0}, {30, 9, 9}, {2, 3, 2}, {4, 1, 5}, {6, 1, 2}};
        for (int b = 0; b < 5; b++) {
            int boy = b;
            Bench.row("boy " + b, four, i -> four.boy(boy, i + 1), told[b]);
        }

        Bench.sentence("QUARRELS, at most 10: of two BOYS, with a GRUDGE (0 to 99); two of one pair may be");
        ForgiveCamp ten = Bench.boys(2, "pride 1", 99, "ab", "ba", "ab", "ba", "ab", "ab", "ab", "ab", "ab");
        Bench.given("the tenth", ten, ten.boot(1, 0, 0), 9);
        Bench.refused("an 11th", ten, ten.boot(0, 1, 0), 4);
        Bench.due("OPEN", ten.told(7), 1023);
        Bench.due("GRUDGES", ten.told(8), 9 * 99);
        Bench.row("quarrel 9", ten, i -> ten.quarrel(9, i), 1, 0, 0, 0);
        Bench.row("quarrel 8", ten, i -> ten.quarrel(8, i), 0, 1, 99, 0);
        Bench.refused("QUARREL 10", ten, ten.quarrel(10, 0), 1);
        Bench.due("of one BOY", ten.boy(0, 5), 10);

        Bench.sentence("All are numbered as they stand");
        ForgiveCamp three = Bench.of("boy z at 3 pride 1; boy y at 2 pride 1; quarrel y z grudge 5; boy x at 1 pride 1; quarrel z x grudge 6; quarrel z y grudge 7;");
        Bench.row("CELLS", three, b -> three.boy(b, 0), 3, 2, 1);
        Bench.row("one", three, q -> three.quarrel(q, 0), 1, 0, 0);
        Bench.row("other", three, q -> three.quarrel(q, 1), 0, 2, 1);
        Bench.row("GRUDGE", three, q -> three.quarrel(q, 2), 5, 6, 7);
    }

    private static void takenCamps() {
        Bench.sentence("A CAMP that is taken is there in place of that ahead; MINUTE 0, all OPEN, no WEEKS");
        ForgiveCamp x = Bench.boys(3, "pride 1 soft 4 ears 7", 0, "ab", "bc");
        Bench.weeks(x, "dawn;");
        x.pitch(0, 5);
        x.rule(9);
        x.minute(9);
        Bench.due("over", x.told(7), 0);
        Bench.given("camp", x, Bench.camp(x, "boy c at 1 pride 2; boy a at 2 pride 3; quarrel a c grudge 1;"), 2);
        Bench.row("told", x, x::told, 2, 1, 4, 3, 4, 0, 0, 1, 1);
        Bench.row("boy 0", x, i -> x.boy(0, i), 1, 2, 1, 2, 0, 1, 0);
        Bench.row("boy 1", x, i -> x.boy(1, i), 2, 3, 1, 2, 0, 1, 0);
        Bench.refused("no WEEKS", x, x.live(0), 6);
        Bench.refused("the third BOY is gone", x, x.boy(2, 0), 1);
        Bench.refused("the second QUARREL is gone", x, x.quarrel(1, 0), 1);
        Bench.given("the FIELD and ODDS are those without, again", x, Bench.camp(x, "field 2 by 5; odds 8;"), 0);
        Bench.row("told", x, i -> x.told(i + 2), 2, 5, 8);
        Bench.given("none told", x, x.camp(0), 0);
        Bench.row("told", x, i -> x.told(i + 2), 4, 3, 4);
    }

    private static void hearing() {
        Bench.sentence("UP is a BOY who is in no OPEN QUARREL");
        ForgiveCamp x = Bench.boys(4, "pride 9", 9, "ab", "bc");
        Bench.due("UP", x.told(6), 8);
        x.forgive(0);
        Bench.due("one in an over one alone, one in an over one and an OPEN one", x.told(6), 9);
        Bench.row("boy", x, b -> x.boy(b, 4), 1, 0, 0, 1);
        Bench.row("OPEN ones", x, b -> x.boy(b, 5), 0, 1, 1, 0);

        Bench.sentence("HEARS: each other one who is UP and no farther off than his EARS");
        ForgiveCamp y = Bench.of("field 6 by 6; boy a at 0 pride 1 ears 3; boy b at 3 pride 1 ears 2; boy c at 10 pride 1 ears 9; boy d at 0 pride 1 ears 0;"
            + "boy e at 35 pride 1 ears 9; boy f at 18 pride 1 ears 0; boy g at 0 pride 9; boy h at 34 pride 9; quarrel g h grudge 9;");
        Bench.row("hears", y, y::hears, 2 + 8 + 32, 4, 1 + 2 + 8 + 16 + 32, 1, 2 + 4 + 32, 0, 1 + 8, 16);
        Bench.due("far 10, EARS 9", y.far(0, 4), 10);
        Bench.due("far 9, EARS 9", y.near(4) >> 7, 1);
        Bench.row("near", y, y::near, 2 + 8 + 32 + 64, 4, 255 - 4, 1 + 64, 2 + 4 + 32 + 128, 0, 1 + 8, 16);

        Bench.sentence("DUE is GRUDGE and PRIDE, less SOFT times how many he HEARS (below 0, too)");
        ForgiveCamp z = Bench.boys(8, "pride 1 soft 9", 0, "ab");
        Bench.given("the least", z, z.due(0, 0), 1 - 6 * 9);
        z.teach(0, 1, 30);
        z.stir(0, 99);
        z.teach(0, 2, 0);
        Bench.given("the greatest", z, z.due(0, 0), 129);
        z.teach(0, 2, 9);
        Bench.given("by six", z, z.due(0, 0), 75);
        z.teach(0, 3, 0);
        z.pitch(0, 1);
        Bench.given("by none", z, z.due(0, 0), 129);
        z.stir(0, 0);
        z.teach(1, 1, 29);
        z.teach(1, 2, 5);
        Bench.given("-1, which is no NONE", z, z.due(1, 0), -1);
        z.teach(1, 1, 30);
        Bench.given("0", z, z.due(1, 0), 0);
    }

    private static void minutes() {
        Bench.sentence("A MINUTE goes by (to 9,999)");
        ForgiveCamp x = Bench.boys(2, "pride 30 soft 0", 99);
        Bench.goTo(x, 9998);
        Bench.refused("to 10,000", x, x.minute(2), 4);
        Bench.due("it stays", x.told(5), 9998);
        Bench.given("to 9,999", x, x.minute(1), 0);
        Bench.refused("one more", x, x.minute(1), 4);
        Bench.refused("240 more", x, x.minute(240), 4);

        Bench.sentence("MINUTE 9,999 does not matter");
        x.boot(0, 1, 99);
        Bench.given("breakfast", x, x.breakfast(), 1);
        Bench.given("upIn", x, x.upIn(0), 1);
        Bench.given("overIn", x, x.overIn(0), 1);
        Bench.given("upBy", x, x.upBy(1), 3);
        Bench.given("upBy(0)", x, x.upBy(0), 0);
        Bench.given("reveille", x, x.reveille(), 0);
        Bench.given("yielder", x, x.yielder(0), 3);
        Bench.due("it is OPEN", x.told(7), 1);
        Bench.given("dawn", x, x.dawn(), 0);
        Bench.given("the latest there is", x, x.breakfast(), 130);

        Bench.sentence("it is his DUE MINUTE or later");
        x.rule(0);
        Bench.given("one ahead of it", x, x.minute(129), 0);
        Bench.given("upIn", x, x.upIn(0), 1);
        Bench.given("in it", x, x.minute(1), 1);
        Bench.due("then it is a MINUTE later", x.told(5), 130);
        x.boot(1, 0, 0);
        Bench.given("later than it", x, x.breakfast(), 1);
        Bench.given("so it is", x, x.minute(1), 1);
        ForgiveCamp below = Bench.boys(3, "pride 1 soft 9", 0, "ab");
        Bench.given("below 0: in the first", below, below.overIn(0), 1);
        Bench.given("so it is", below, below.minute(1), 1);

        Bench.sentence("all at once; a QUARREL in which one YIELDS, or both, is over");
        ForgiveCamp y = Bench.of("boy a at 0 pride 3 soft 0; boy b at 0 pride 3 soft 0; boy c at 0 pride 9 soft 0; quarrel a b grudge 1; quarrel c b grudge 1; quarrel c a grudge 1;");
        Bench.given("minute", y, y.minute(5), 3);
        Bench.row("who YIELDED", y, q -> y.quarrel(q, 3), 3, 2, 2);
        Bench.row("in how many", y, b -> y.boy(b, 6), 2, 2, 0);

        Bench.sentence("in each OPEN QUARREL in which it is his DUE MINUTE, in none besides");
        ForgiveCamp z = Bench.of("boy a at 0 pride 1 soft 0; boy b at 0 pride 30 soft 0; quarrel a b grudge 3; quarrel a b grudge 4;");
        Bench.given("minute", z, z.minute(5), 1);
        Bench.due("OPEN", z.told(7), 2);
        Bench.given("minute", z, z.minute(1), 1);

        Bench.sentence("by whom he HEARS at its beginning");
        ForgiveCamp w = Bench.of("boy a at 0 pride 1; boy b at 0 pride 1; boy c at 0 pride 9 soft 9; boy d at 0 pride 30; quarrel a b grudge 0; quarrel c d grudge 0;");
        Bench.given("in MINUTE 1 the one pair", w, w.minute(2), 1);
        Bench.due("OPEN", w.told(7), 2);
        Bench.given("whom c HEARS now, so in MINUTE 2 the other", w, w.minute(1), 1);
        Bench.given("who YIELDED", w, w.quarrel(1, 3), 1);
    }

    private static void deeds() {
        Bench.sentence("YIELD: a BOY YIELDS in all his OPEN QUARRELS at once");
        ForgiveCamp x = Bench.boys(4, "pride 9", 50, "ab", "ba", "cd", "ac");
        Bench.given("forgive", x, x.forgive(0), 3);
        Bench.row("who YIELDED", x, q -> x.quarrel(q, 3), 1, 2, 0, 1);
        Bench.row("in how many", x, b -> x.boy(b, 6), 3, 0, 0, 0);
        Bench.given("the rest", x, x.forgive(3), 1);
        Bench.due("the second", x.quarrel(2, 3), 2);
        Bench.refused("he is UP", x, x.forgive(3), 7);

        Bench.sentence("DAWN: over ones are struck (those behind have a number less), it is MINUTE 0");
        ForgiveCamp y = Bench.of("boy a at 0 pride 1 soft 0; boy b at 0 pride 1 soft 0; quarrel a b grudge 0; quarrel a b grudge 90; quarrel b a grudge 1; quarrel b a grudge 80; quarrel a b grudge 2;");
        y.minute(4);
        Bench.due("OPEN", y.told(7), 2 + 8);
        Bench.given("dawn", y, y.dawn(), 3);
        Bench.due("MINUTE", y.told(5), 0);
        Bench.due("OPEN", y.told(7), 3);
        Bench.row("GRUDGES", y, q -> y.quarrel(q, 2), 90, 80);
        Bench.row("the first ones", y, q -> y.quarrel(q, 0), 0, 1);
        Bench.refused("a third", y, y.quarrel(2, 0), 1);
        Bench.row("YIELDED in all", y, b -> y.boy(b, 6), 3, 3);
        Bench.given("of none", y, y.dawn(), 0);
        y.forgive(0);
        Bench.given("of all", y, y.dawn(), 2);
        Bench.given("without any", y, y.dawn(), 0);
        ForgiveCamp none = new ForgiveCamp();
        Bench.given("without BOYS", none, none.dawn(), 0);

        Bench.sentence("QUARREL: a new one, OPEN. (an 11th: those that are over count, till DAWN)");
        ForgiveCamp z = Bench.boys(3, "pride 1", 0, "ab", "ab", "ab", "ab", "ab", "ab", "ab", "ab", "ab");
        z.forgive(0);
        Bench.given("boot", z, z.boot(2, 0, 99), 9);
        Bench.row("quarrel 9", z, i -> z.quarrel(9, i), 2, 0, 99, 0);
        Bench.refused("an 11th", z, z.boot(2, 0, 0), 4);
        z.dawn();
        Bench.given("behind the one that stays", z, z.boot(1, 2, 0), 1);
        Bench.refused("GRUDGE 100", z, z.boot(1, 2, 100), 1);
        Bench.refused("GRUDGE -1", z, z.boot(1, 2, -1), 1);

        Bench.sentence("PITCH: a BOY is AT another CELL");
        Bench.refused("he is there", z, z.pitch(0, 0), 7);
        Bench.given("to the last", z, z.pitch(0, 11), 0);
        Bench.refused("he is there", z, z.pitch(0, 11), 7);
        Bench.due("whom he is near to", z.near(0), 0);
        Bench.due("who is near to him", z.near(1), 4);
        Bench.given("back", z, z.pitch(0, 0), 11);
        Bench.due("near", z.near(1), 5);
    }

    private static void mornings() {
        Bench.sentence("BREAKFAST is behind how many MINUTES all are UP (0: now)");
        ForgiveCamp none = new ForgiveCamp();
        Bench.given("without BOYS", none, none.breakfast(), 0);
        ForgiveCamp x = Bench.boys(3, "pride 2 soft 0", 3, "ab");
        Bench.given("breakfast", x, x.breakfast(), 6);
        x.minute(5);
        Bench.given("breakfast", x, x.breakfast(), 1);
        x.minute(1);
        Bench.given("all are UP", x, x.breakfast(), 0);
        Bench.row("upIn", x, x::upIn, 0, 0, 0);
        Bench.given("upBy(0)", x, x.upBy(0), 7);
        Bench.given("overIn", x, x.overIn(0), 0);
        Bench.given("yielder", x, x.yielder(0), 3);
        Bench.refused("reveille", x, x.reveille(), 6);
        Bench.given("last, the first of several", x, x.last(), 0);

        Bench.sentence("upBy: so many MINUTES (0 to 200)");
        Bench.refused("-1", x, x.upBy(-1), 1);
        Bench.refused("201", x, x.upBy(201), 1);
        Bench.given("200", x, x.upBy(200), 7);
        x.dawn();
        x.boot(0, 2, 99);
        Bench.given("one ahead of it", x, x.upBy(101), 2);
        Bench.given("just then", x, x.upBy(102), 7);

        Bench.sentence("upIn: behind how many MINUTES a BOY is UP first; last: of several the first");
        ForgiveCamp y = Bench.of("boy a at 0 pride 1 soft 0; boy b at 0 pride 20 soft 0; boy c at 0 pride 20 soft 0; boy d at 0 pride 5 soft 0; quarrel a b grudge 0; quarrel b c grudge 3; quarrel a d grudge 30;");
        Bench.row("upIn", y, y::upIn, 32, 24, 24, 32);
        Bench.given("last", y, y.last(), 0);
        y.forgive(0);
        Bench.row("upIn", y, y::upIn, 0, 24, 24, 0);
        Bench.given("last", y, y.last(), 1);
        Bench.refused("last: no BOYS", none, none.last(), 6);

        Bench.sentence("reveille: of those who YIELD in the first MINUTE in which somebody does, the first by numbers");
        ForgiveCamp z = Bench.of("boy a at 0 pride 9 soft 0; boy b at 0 pride 4 soft 0; boy c at 0 pride 4 soft 0; boy d at 0 pride 5 soft 0; quarrel d c grudge 0; quarrel b a grudge 0; quarrel a d grudge 0;");
        Bench.given("reveille", z, z.reveille(), 1);
        z.minute(5);
        Bench.given("then", z, z.reveille(), 3);
        Bench.refused("all are UP", none, none.reveille(), 6);

        Bench.sentence("yielder: 1 the first, 2 the second, 3 both");
        Bench.row("yielder", z, z::yielder, 2, 1, 2);
        ForgiveCamp both = Bench.boys(2, "pride 1", 0, "ab");
        Bench.given("both", both, both.yielder(0), 3);
        both.forgive(1);
        Bench.given("over: who YIELDED", both, both.yielder(0), 2);
    }

    private static void sets() {
        // Two sets end such a square, {a, d} and {b, c}: the least as a number is not the one with the first BOY.
        ForgiveCamp square = Bench.boys(4, "pride 9 soft 0", 9, "ab", "bd", "ca", "dc");
        Bench.sentence("SOONEST for k (0 to 4)");
        Bench.given("0", square, square.soonest(0), 0);
        Bench.given("0", square, square.soonestIn(0), 19);
        Bench.given("4", square, square.soonest(4), 15);
        Bench.given("4", square, square.soonestIn(4), 0);
        for (int k : new int[] {-1, 5, Integer.MIN_VALUE, Integer.MAX_VALUE}) {
            Bench.refused("soonest", square, square.soonest(k), 1);
            Bench.refused("soonestIn", square, square.soonestIn(k), 1);
        }
        Bench.sentence("SOONEST: of several the least as a number (1 for BOY 0 ..)");
        Bench.given("two", square, square.soonest(2), 6);
        Bench.given("two", square, square.soonestIn(2), 0);
        Bench.given("three", square, square.soonest(3), 7);
        Bench.given("one, by none of whom it is sooner", square, square.soonest(1), 1);
        Bench.given("one", square, square.soonestIn(1), 19);
        ForgiveCamp up = Bench.boys(4, "pride 1", 0);
        Bench.row("all are UP", up, up::soonest, 0, 1, 3, 7, 15);
        Bench.row("all are UP", up, up::soonestIn, 0, 0, 0, 0, 0);
        Bench.sentence("SOONEST: 6: there are not so many");
        ForgiveCamp three = Bench.boys(3, "pride 1", 0, "bc");
        Bench.given("as many as there are", three, three.soonest(3), 7);
        Bench.refused("one more", three, three.soonest(4), 6);
        Bench.refused("one more", three, three.soonestIn(4), 6);
        Bench.refused("five can't be", three, three.soonest(5), 1);
        Bench.sentence("SOONEST: all of them having YIELDED now, those who are HEARD then are");
        ForgiveCamp heard = Bench.of("boy a at 0 pride 30 soft 0; boy b at 0 pride 30 soft 0; boy c at 0 pride 20 soft 9; boy d at 0 pride 30 soft 0; quarrel a b grudge 5; quarrel c d grudge 9;");
        Bench.given("one", heard, heard.soonest(1), 1);
        Bench.given("20 and 9, less 18, and one", heard, heard.soonestIn(1), 12);

        Bench.sentence("ENDING: the fewest BOYS; of several sets the least as a number");
        Bench.given("ending", square, square.ending(), 2);
        Bench.given("endingSet", square, square.endingSet(), 6);
        Bench.given("none OPEN", up, up.ending(), 0);
        Bench.given("none OPEN", up, up.endingSet(), 0);
        ForgiveCamp five = Bench.boys(8, "pride 1", 0, "de", "df", "dg", "dh", "ef", "eg", "eh", "fg", "fh", "gh");
        Bench.given("all pairs of five", five, five.ending(), 4);
        Bench.given("all pairs of five", five, five.endingSet(), 8 + 16 + 32 + 64);
        String[] pairs = {"ab", "ac", "bc", "ad", "bd", "cd", "ae", "be", "ce", "de"};
        for (int n = 2; n <= 5; n++) {
            ForgiveCamp all = Bench.boys(n, "pride 1", 0, java.util.Arrays.copyOf(pairs, n * (n - 1) / 2));
            Bench.given("all pairs there are", all, all.ending(), n - 1);
            Bench.given("all but the last BOY", all, all.endingSet(), (1 << n - 1) - 1);
        }
        Bench.sentence("APART: the most OPEN QUARRELS of which no two have a BOY in common; the least as a number");
        Bench.given("apart", square, square.apart(), 2);
        Bench.given("apartSet", square, square.apartSet(), 6);
        Bench.given("none", up, up.apart(), 0);
        Bench.given("none", up, up.apartSet(), 0);
        Bench.given("all pairs of five", five, five.apart(), 2);
        Bench.given("dg and ef, less than de and fg", five, five.apartSet(), 4 + 16);
        ForgiveCamp twice = Bench.boys(8, "pride 1", 0, "ab", "ba", "cd", "dc", "ef", "fe", "gh", "hg", "ab", "gh");
        Bench.given("four pairs", twice, twice.apart(), 4);
        Bench.given("four pairs", twice, twice.apartSet(), 1 + 4 + 16 + 64);
        Bench.sentence("ENDING, APART: those that are over do not count");
        square.forgive(0);
        Bench.given("ending", square, square.ending(), 1);
        Bench.given("endingSet", square, square.endingSet(), 8);
        Bench.given("apartSet", square, square.apartSet(), 2);
    }

    /** A question that is the first one of an object, so that nothing an earlier one left behind can help it. */
    private static void askedFirst(String what, java.util.function.ToIntFunction<ForgiveCamp> question, int want) {
        ForgiveCamp x = Bench.of("field 3 by 1; boy a at 0 pride 9 soft 0; boy b at 1 pride 30 soft 9; boy c at 2 pride 4 soft 9 ears 0; boy d at 2 pride 20 soft 0;"
            + "boy e at 0 pride 8 soft 0; quarrel b a grudge 0; quarrel d c grudge 30; quarrel b e grudge 0;");
        x.tray(0, 0, 2);
        x.write(0, 0, 2);
        x.write(0, 1, 35);
        Bench.given(what, x, question.applyAsInt(x), want);
    }

    private static void askedFirst() {
        Bench.sentence("All ahead is as only MINUTES go by, whatever is asked first");
        askedFirst("upIn(0)", x -> x.upIn(0), 10);
        askedFirst("upIn(4)", x -> x.upIn(4), 9);
        askedFirst("upIn(3)", x -> x.upIn(3), 35);
        askedFirst("upBy(8)", x -> x.upBy(8), 0);
        askedFirst("upBy(9)", x -> x.upBy(9), 16);
        askedFirst("upBy(10)", x -> x.upBy(10), 19);
        askedFirst("breakfast", x -> x.breakfast(), 35);
        askedFirst("overIn(0)", x -> x.overIn(0), 10);
        askedFirst("overIn(1)", x -> x.overIn(1), 35);
        askedFirst("yielder(2)", x -> x.yielder(2), 2);
        askedFirst("reveille", x -> x.reveille(), 4);
        askedFirst("last", x -> x.last(), 2);
        askedFirst("soonest(1)", x -> x.soonest(1), 4);
        askedFirst("soonestIn(1)", x -> x.soonestIn(1), 10);
        askedFirst("soonest(2)", x -> x.soonest(2), 6);
        askedFirst("soonestIn(2)", x -> x.soonestIn(2), 0);
        askedFirst("best(2)", x -> x.best(2), 0);
        askedFirst("bestIn(2)", x -> x.bestIn(2), 17);
        askedFirst("ending", x -> x.ending(), 2);
        askedFirst("endingSet", x -> x.endingSet(), 6);
        askedFirst("apart", x -> x.apart(), 2);
        askedFirst("apartSet", x -> x.apartSet(), 3);
        askedFirst("circle(4)", x -> x.circle(4), 19);
        askedFirst("circles", x -> x.circles(), 2);
        askedFirst("sides", x -> x.sides(), 6);
        askedFirst("fits", x -> x.fits(3, 0, 1), 27);
        askedFirst("fitsAt 0", x -> x.fitsAt(3, 0, 1, 0), 4);
        askedFirst("fitsAt 1", x -> x.fitsAt(3, 0, 1, 1), 30);
        askedFirst("ask", x -> x.ask(3, 0, 1), 0);
        askedFirst("game(0)", x -> x.game(0), 35);
        askedFirst("game(1)", x -> x.game(1), 10);
        askedFirst("game(2)", x -> x.game(2), 13);
        askedFirst("moveOf(1)", x -> x.moveOf(1), 1);
        askedFirst("moveOf(2)", x -> x.moveOf(2), 1);
    }

    private static void bests() {
        Bench.sentence("BEST: of several CELLS the first");
        ForgiveCamp x = Bench.boys(3, "pride 9 soft 0", 9, "ab");
        x.pitch(2, 7);
        Bench.given("best", x, x.best(2), 0);
        Bench.given("bestIn", x, x.bestIn(2), 19);
        Bench.due("he stays", x.boy(2, 0), 7);
        Bench.sentence("BEST: the CELL AT which BREAKFAST is the soonest");
        ForgiveCamp y = Bench.of("field 6 by 6; boy a at 35 pride 9 soft 3 ears 0; boy b at 35 pride 9 soft 0 ears 0; boy c at 0 pride 9; quarrel a b grudge 9;");
        Bench.given("best", y, y.best(2), 35);
        Bench.given("bestIn", y, y.bestIn(2), 16);
        Bench.given("of one who is in it: where c is", y, y.best(0), 0);
        Bench.given("bestIn", y, y.bestIn(0), 16);
        y.teach(0, 3, 1);
        Bench.given("the first within the EARS", y, y.best(2), 29);
        ForgiveCamp one = Bench.of("field 1 by 1; boy a at 0 pride 1;");
        Bench.given("one CELL", one, one.best(0), 0);
        Bench.given("one CELL", one, one.bestIn(0), 0);
    }

    private static void circles() {
        Bench.sentence("CIRCLE: he and all to whom one comes from him by OPEN QUARRELS");
        ForgiveCamp x = Bench.boys(8, "pride 1", 0, "gh", "fg", "ef", "de", "cd", "bc", "ab");
        Bench.row("a row of eight", x, x::circle, 255, 255, 255, 255, 255, 255, 255, 255);
        Bench.given("one", x, x.circles(), 1);
        x.forgive(3);
        Bench.row("circle", x, x::circle, 7, 7, 7, 8, 240, 240, 240, 240);
        Bench.given("circles", x, x.circles(), 3);
        Bench.sentence("one who is UP is one");
        ForgiveCamp up = Bench.boys(8, "pride 1", 0);
        Bench.given("eight", up, up.circles(), 8);
        Bench.row("circle", up, up::circle, 1, 2, 4, 8, 16, 32, 64, 128);
        ForgiveCamp none = new ForgiveCamp();
        Bench.given("none", none, none.circles(), 0);

        Bench.sentence("SIDES: each OPEN QUARREL is of one in it and one who is not; the least as a number");
        Bench.given("none OPEN", up, up.sides(), 0);
        Bench.given("no BOYS", none, none.sides(), 0);
        ForgiveCamp row = Bench.boys(3, "pride 1", 0, "ab", "bc", "cb");
        Bench.given("the one between", row, row.sides(), 2);
        Bench.given("over ones do not count: b, e and g", x, x.sides(), 2 + 16 + 64);
        Bench.sentence("SIDES: 6: there are none such");
        row.boot(2, 0, 0);
        Bench.refused("three of three", row, row.sides(), 6);
        ForgiveCamp five = Bench.boys(8, "pride 1", 0, "hd", "de", "ef", "fg", "gh");
        Bench.refused("five in a ring", five, five.sides(), 6);
        ForgiveCamp six = Bench.boys(6, "pride 1", 0, "ab", "bc", "cd", "de", "ef", "fa");
        Bench.given("six in a ring", six, six.sides(), 1 + 4 + 16);
    }

    private static void moreOfOne() {
        Bench.sentence("more QUARRELS than BOYS");
        ForgiveCamp x = Bench.boys(3, "pride 1 soft 0", 0, "ab", "ba", "ab", "ab", "ab", "ab", "ab", "ab", "ab", "bc");
        for (int q = 0; q < 10; q++) x.stir(q, 2 * q);
        Bench.row("overIn", x, x::overIn, 2, 4, 6, 8, 10, 12, 14, 16, 18, 20);
        Bench.row("upIn", x, x::upIn, 18, 20, 20);
        Bench.row("circle", x, x::circle, 7, 7, 7);
        Bench.given("circles", x, x.circles(), 1);
        Bench.given("sides", x, x.sides(), 2);
        x.minute(18);
        Bench.given("apartSet", x, x.apartSet(), 512);
        Bench.given("endingSet", x, x.endingSet(), 2);
        Bench.given("moveOf", x, x.moveOf(1), 9);
        Bench.row("overIn", x, x::overIn, 0, 0, 0, 0, 0, 0, 0, 0, 0, 2);
        Bench.given("game", x, x.game(1), 0);

        Bench.sentence("more BOYS than QUARRELS");
        ForgiveCamp y = Bench.boys(8, "pride 3 soft 0", 0, "gh");
        Bench.given("soonest", y, y.soonest(1), 64);
        Bench.given("soonestIn", y, y.soonestIn(1), 0);
        Bench.given("endingSet", y, y.endingSet(), 64);
        Bench.given("sides", y, y.sides(), 64);
        Bench.given("circles", y, y.circles(), 7);
        Bench.given("circle", y, y.circle(7), 192);
        Bench.row("upIn", y, y::upIn, 0, 0, 0, 0, 0, 0, 4, 4);
        Bench.given("last", y, y.last(), 6);

        Bench.sentence("BOYS without QUARRELS");
        ForgiveCamp z = Bench.boys(2, "pride 3", 0);
        Bench.given("last", z, z.last(), 0);
        Bench.refused("reveille", z, z.reveille(), 6);
        Bench.given("upBy", z, z.upBy(0), 3);

        Bench.sentence("BEST: the last CELL of a FIELD that is not as WIDE as HIGH");
        for (int wide = 1; wide <= 6; wide++) {
            for (int high = 1; high <= 6; high++) {
                int last = wide * high - 1;
                ForgiveCamp f = Bench.of("field " + wide + " by " + high + "; boy a at " + last + " pride 9 soft 9 ears 0; boy b at " + last
                    + " pride 9 soft 9 ears 0; boy c at 0 pride 1; quarrel a b grudge 3;");
                Bench.given("best", f, f.best(2), last);
                Bench.given("bestIn", f, f.bestIn(2), 4);
            }
        }
    }

    public static void main(String[] args) {
        trays();
        pouring();
        fields();
        leastAndGreatest();
        takenCamps();
        hearing();
        minutes();
        deeds();
        mornings();
        sets();
        askedFirst();
        bests();
        circles();
        moreOfOne();
        Bench.end("TermsTests");
    }
}
