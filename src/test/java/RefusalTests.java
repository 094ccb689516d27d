import java.util.ArrayList;
import java.util.List;
import java.util.function.Supplier;
import java.util.function.ToLongFunction;

/**
 * Section 5 and the numbers in brackets behind each call: which STATUS, in which order, and that nothing else changes.
 * For that a twin, made alike but spared the call, must answer alike in all that follows.
 */
public final class RefusalTests {
    private static final int NONE = ForgiveCamp.NONE;
    private static final int LEAST = Integer.MIN_VALUE;
    private static final int MOST = Integer.MAX_VALUE;

    /** Four BOYS on nine CELLS, d is UP; three QUARRELS, the last one over; TRAYS of three sorts, the last MISSING. */
    private static ForgiveCamp some() {
        ForgiveCamp x = new ForgiveCamp();
        Bench.camp(x, "field 3 by 3; odds 6; boy a at 0 pride 5 soft 1 ears 2; boy b at 4 pride 7 soft 2 ears 9; boy c at 8 pride 3 soft 0;"
            + "boy d at 2 pride 1; quarrel a b grudge 30; quarrel b c grudge 40;");
        Bench.weeks(x, "when up d; any; end; minute 3; pitch d 5; pitch d 2; stop;");
        x.mark();
        x.boot(2, 0, 0);
        x.live(7);
        x.minute(1);
        x.tray(0, 1, 6);
        x.tray(1, 2, 2);
        x.tray(2, 0, 3);
        long[] numbers = {3, 0, 0, 200, 4, 201};
        for (int i = 0; i < numbers.length; i++) x.write(0, i, numbers[i]);
        for (int i = 0; i < 2; i++) x.write(1, i, -1 - i);
        for (int i = 0; i < 3; i++) x.write(2, i, i + 1);
        x.night(1);
        Bench.camp(x, "odds 77;");
        Bench.feed(x, "odds 2; quarrel a a grudge; ?");
        return x;
    }

    /** Eight BOYS, ten QUARRELS, three MARKS, MINUTE 9,998. */
    private static ForgiveCamp full() {
        ForgiveCamp x = Bench.boys(8, "pride 9", 9, "ab", "cd", "ef", "ab", "cd", "ef", "ab", "cd", "ef");
        for (int left = 9998; left > 0; left -= 240) x.minute(Math.min(left, 240));
        x.boot(7, 0, 99);
        for (int i = 0; i < 3; i++) x.mark();
        return x;
    }

    private static ForgiveCamp bare() {
        return new ForgiveCamp();
    }

    private static long asNumber(boolean answer) {
        return answer ? 1 : NONE;
    }

    /** All that can be asked, then what shows only by deeds: WEEKS, MARKS, the tape. */
    private static List<Long> allOf(ForgiveCamp x, boolean fractions, boolean texts) {
        List<Long> all = new ArrayList<>();
        if (fractions) {
            all.add(x.top());
            all.add(x.bottom());
        }
        for (int w = 0; w < 2 && texts; w++) all.add((long) x.fault(w));
        for (int w = 0; w < 5; w++) all.add((long) x.lived(w));
        camp(all, x);
        for (int t = 0; t < 4; t++) for (int p = 0; p < 7; p++) all.add(x.read(t, p));
        if (texts) all.add((long) x.feed(0x3b3b3b3b, 0, 0, 0, 0));
        all.add((long) x.live(5));
        all.add((long) x.told(1));
        for (int m = 0; m < 4; m++) {
            all.add((long) x.undo());
            if (m == 0) camp(all, x);
        }
        all.add((long) x.live(5));
        all.add((long) x.told(5));
        if (texts) {
            all.add((long) x.camp(31));
            all.add((long) x.fault(0));
            all.add((long) x.fault(1));
        }
        return all;
    }

    private static void camp(List<Long> all, ForgiveCamp x) {
        for (int w = 0; w < 9; w++) all.add((long) x.told(w));
        for (int b = 0; b < x.told(0); b++) for (int w = 0; w < 7; w++) all.add((long) x.boy(b, w));
        for (int b = 0; b < x.told(0); b++) all.add((long) x.near(b));
        for (int q = 0; q < x.told(1); q++) for (int w = 0; w < 4; w++) all.add((long) x.quarrel(q, w));
    }

    private static void alike(String what, List<Long> got, List<Long> want) {
        for (int i = 0; i < Math.max(got.size(), want.size()); i++) {
            Bench.due(what + ": of all answers behind it number " + i, i < got.size() ? got.get(i) : -999, i < want.size() ? want.get(i) : -999);
        }
    }

    @SafeVarargs
    private static void refusal(Supplier<ForgiveCamp> made, String promise, int status, ToLongFunction<ForgiveCamp>... calls) {
        Bench.sentence("Promise " + promise + ", STATUS " + status);
        List<Long> untouched = allOf(made.get(), true, true);
        for (int i = 0; i < calls.length; i++) {
            ForgiveCamp x = made.get();
            Bench.refused("call " + i, x, calls[i].applyAsLong(x), status);
            alike("call " + i + " changes nothing else", allOf(x, true, true), untouched);
        }
    }

    private static void traysAndTexts() {
        Supplier<ForgiveCamp> some = RefusalTests::some;
        refusal(some, "5 tray", 1, x -> asNumber(x.tray(-1, 0, 1)), x -> asNumber(x.tray(4, 0, 1)), x -> asNumber(x.tray(0, -1, 1)),
            x -> asNumber(x.tray(0, 4, 1)), x -> asNumber(x.tray(0, 0, -1)), x -> asNumber(x.tray(0, 0, 61)), x -> asNumber(x.tray(0, 0, LEAST)));
        refusal(some, "6 write", 1, x -> asNumber(x.write(-1, 0, 9)), x -> asNumber(x.write(4, 0, 9)), x -> asNumber(x.write(4, -1, 9)));
        refusal(some, "6 write", 2, x -> asNumber(x.write(3, 0, 9)), x -> asNumber(x.write(3, -1, 9)), x -> asNumber(x.write(3, 60, 9)));
        refusal(some, "6 write", 3, x -> asNumber(x.write(0, -1, 9)), x -> asNumber(x.write(0, 6, 9)), x -> asNumber(x.write(2, 3, 9)),
            x -> asNumber(x.write(0, LEAST, 9)), x -> asNumber(x.write(0, MOST, 9)));
        refusal(some, "7 read", 1, x -> x.read(-1, 0), x -> x.read(4, 0), x -> x.read(MOST, MOST));
        refusal(some, "7 read", 2, x -> x.read(3, 0), x -> x.read(3, -1), x -> x.read(3, 60));
        refusal(some, "7 read", 3, x -> x.read(0, -1), x -> x.read(0, 6), x -> x.read(2, 3), x -> x.read(0, MOST), x -> x.read(0, LEAST));
        refusal(some, "8 pour", 1, x -> asNumber(x.pour(-1, 0, 0, 0, 1)), x -> asNumber(x.pour(4, 0, 0, 0, 1)), x -> asNumber(x.pour(0, 0, -1, 0, 1)),
            x -> asNumber(x.pour(0, 0, 4, 0, 1)), x -> asNumber(x.pour(0, -1, 0, 0, 1)), x -> asNumber(x.pour(0, 0, 0, -1, 1)), x -> asNumber(x.pour(0, 0, 0, 0, -1)));
        refusal(some, "8 pour", 2, x -> asNumber(x.pour(3, 0, 0, 0, 1)), x -> asNumber(x.pour(0, 0, 3, 0, 1)), x -> asNumber(x.pour(3, 99, 3, 99, 99)));
        refusal(some, "8 pour", 8, x -> asNumber(x.pour(0, 0, 1, 0, 1)), x -> asNumber(x.pour(1, 9, 0, 9, 9)), x -> asNumber(x.pour(2, 0, 1, 0, 0)));
        refusal(some, "8 pour", 3, x -> asNumber(x.pour(0, 1, 0, 0, 6)), x -> asNumber(x.pour(0, 0, 0, 1, 6)), x -> asNumber(x.pour(0, 0, 0, 0, 7)),
            x -> asNumber(x.pour(0, 7, 0, 0, 0)), x -> asNumber(x.pour(0, 0, 0, 7, 0)), x -> asNumber(x.pour(0, MOST, 0, 0, MOST)));
        refusal(some, "10 camp", 1, x -> x.camp(-1), x -> x.camp(41), x -> x.camp(LEAST), x -> x.camp(MOST));
        refusal(some, "11 weeks", 1, x -> x.weeks(-1), x -> x.weeks(41), x -> x.weeks(301), x -> x.weeks(LEAST), x -> x.weeks(MOST));
        refusal(some, "13 told", 1, x -> x.told(-1), x -> x.told(9), x -> x.told(LEAST), x -> x.told(MOST));
        refusal(some, "14 boy", 1, x -> x.boy(-1, 0), x -> x.boy(4, 0), x -> x.boy(0, -1), x -> x.boy(0, 7), x -> x.boy(MOST, MOST));
        refusal(some, "15 quarrel", 1, x -> x.quarrel(-1, 0), x -> x.quarrel(x.told(1), 0), x -> x.quarrel(0, -1), x -> x.quarrel(0, 4), x -> x.quarrel(LEAST, 0));
        refusal(RefusalTests::bare, "14 boy, 15 quarrel", 1, x -> x.boy(0, 0), x -> x.quarrel(0, 0));
    }

    private static void deeds() {
        Supplier<ForgiveCamp> some = RefusalTests::some;
        Supplier<ForgiveCamp> full = RefusalTests::full;
        refusal(some, "16 minute", 1, x -> x.minute(0), x -> x.minute(-1), x -> x.minute(241), x -> x.minute(LEAST), x -> x.minute(MOST));
        refusal(full, "16 minute, at its end", 1, x -> x.minute(0), x -> x.minute(241));
        refusal(full, "16 minute", 4, x -> x.minute(2), x -> x.minute(240));
        refusal(some, "18 boot", 1, x -> x.boot(-1, 0, 1), x -> x.boot(4, 0, 1), x -> x.boot(0, -1, 1), x -> x.boot(0, 4, 1), x -> x.boot(1, 1, 1),
            x -> x.boot(0, 1, -1), x -> x.boot(0, 1, 100));
        refusal(full, "18 boot", 4, x -> x.boot(0, 1, 0), x -> x.boot(7, 6, 99));
        refusal(full, "18 boot, one and himself ahead of an 11th", 1, x -> x.boot(1, 1, 0), x -> x.boot(8, 1, 0), x -> x.boot(0, 1, 100));
        refusal(some, "19 forgive", 1, x -> x.forgive(-1), x -> x.forgive(4), x -> x.forgive(LEAST), x -> x.forgive(MOST));
        refusal(some, "19 forgive", 7, x -> x.forgive(3));
        refusal(full, "19 forgive, all over but one", 7, x -> x.forgive(1), x -> x.forgive(6));
        refusal(some, "20 pitch", 1, x -> x.pitch(-1, 0), x -> x.pitch(4, 0), x -> x.pitch(0, -1), x -> x.pitch(0, 9), x -> x.pitch(0, MOST));
        refusal(some, "20 pitch", 7, x -> x.pitch(0, 0), x -> x.pitch(2, 8));
        refusal(some, "21 teach", 1, x -> asNumber(x.teach(-1, 1, 5)), x -> asNumber(x.teach(4, 1, 5)), x -> asNumber(x.teach(0, 0, 5)),
            x -> asNumber(x.teach(0, 4, 5)), x -> asNumber(x.teach(0, 1, 0)), x -> asNumber(x.teach(0, 1, 31)), x -> asNumber(x.teach(0, 2, -1)),
            x -> asNumber(x.teach(0, 2, 10)), x -> asNumber(x.teach(0, 3, -1)), x -> asNumber(x.teach(0, 3, 10)), x -> asNumber(x.teach(0, -1, 5)));
        refusal(some, "22 stir", 1, x -> x.stir(-1, 1), x -> x.stir(x.told(1), 1), x -> x.stir(0, -1), x -> x.stir(0, 100), x -> x.stir(2, 100));
        refusal(some, "22 stir", 7, x -> x.stir(2, 50), x -> x.stir(2, 0));
        refusal(some, "23 come", 1, x -> x.come(-1, 1), x -> x.come(9, 1), x -> x.come(0, 0), x -> x.come(0, 31), x -> x.come(MOST, MOST));
        refusal(full, "23 come", 4, x -> x.come(0, 1), x -> x.come(11, 30));
        refusal(full, "23 come, ahead of a ninth", 1, x -> x.come(12, 1), x -> x.come(0, 0));
        refusal(some, "24 rule", 1, x -> asNumber(x.rule(-1)), x -> asNumber(x.rule(17)), x -> asNumber(x.rule(LEAST)), x -> asNumber(x.rule(MOST)));
    }

    private static void questions() {
        Supplier<ForgiveCamp> some = RefusalTests::some;
        Supplier<ForgiveCamp> bare = RefusalTests::bare;
        refusal(some, "25 far", 1, x -> x.far(-1, 0), x -> x.far(4, 0), x -> x.far(0, -1), x -> x.far(0, 4));
        refusal(some, "26 hears", 1, x -> x.hears(-1), x -> x.hears(4), x -> x.hears(LEAST), x -> x.hears(MOST));
        refusal(some, "27 near", 1, x -> x.near(-1), x -> x.near(4), x -> x.near(LEAST), x -> x.near(MOST));
        refusal(some, "28 due", 1, x -> x.due(-1, 0), x -> x.due(4, 0), x -> x.due(0, -1), x -> x.due(0, x.told(1)));
        refusal(some, "28 due", 6, x -> x.due(2, 0), x -> x.due(3, 0), x -> x.due(0, 1));
        refusal(some, "28 due, not in it and over", 6, x -> x.due(1, 2), x -> x.due(3, 2));
        refusal(some, "28 due", 7, x -> x.due(2, 2), x -> x.due(0, 2));
        refusal(some, "29 upIn", 1, x -> x.upIn(-1), x -> x.upIn(4), x -> x.upIn(LEAST), x -> x.upIn(MOST));
        refusal(some, "30 upBy", 1, x -> x.upBy(-1), x -> x.upBy(201), x -> x.upBy(LEAST), x -> x.upBy(MOST));
        refusal(some, "32 overIn", 1, x -> x.overIn(-1), x -> x.overIn(x.told(1)), x -> x.overIn(10), x -> x.overIn(MOST));
        refusal(some, "33 yielder", 1, x -> x.yielder(-1), x -> x.yielder(x.told(1)), x -> x.yielder(10), x -> x.yielder(MOST));
        refusal(bare, "34 reveille", 6, x -> x.reveille());
        refusal(bare, "35 last", 6, x -> x.last());
        refusal(some, "36 soonest, 37 soonestIn", 1, x -> x.soonest(-1), x -> x.soonest(5), x -> x.soonestIn(-1), x -> x.soonestIn(5));
        refusal(bare, "36 soonest, 37 soonestIn", 6, x -> x.soonest(1), x -> x.soonest(4), x -> x.soonestIn(1), x -> x.soonestIn(4));
        refusal(bare, "36 soonest, 37 soonestIn of no BOYS", 1, x -> x.soonest(5), x -> x.soonestIn(-1));
        refusal(some, "38 best, 39 bestIn", 1, x -> x.best(-1), x -> x.best(4), x -> x.bestIn(-1), x -> x.bestIn(4), x -> x.best(MOST));
        refusal(some, "44 circle", 1, x -> x.circle(-1), x -> x.circle(4), x -> x.circle(LEAST), x -> x.circle(MOST));
        refusal(() -> Bench.boys(3, "pride 9", 9, "ab", "bc", "ca"), "46 sides", 6, x -> x.sides());
    }

    private static void seen() {
        Supplier<ForgiveCamp> some = RefusalTests::some;
        for (int boy : new int[] {-1, 4, MOST}) {
            refusal(some, "47 fits, 48 fitsAt, 49 ask: a BOY", 1, x -> x.fits(boy, 0, 1), x -> x.fitsAt(boy, 0, 1, 0), x -> x.ask(boy, 0, 1), x -> x.fits(boy, 3, 99));
        }
        for (int tray : new int[] {-1, 4, MOST}) {
            refusal(some, "47 fits, 48 fitsAt, 49 ask: a TRAY", 1, x -> x.fits(0, tray, 1), x -> x.fitsAt(0, tray, 1, 0), x -> x.ask(0, tray, 1));
        }
        for (int n : new int[] {-1, 21, LEAST, MOST}) {
            refusal(some, "47 fits, 48 fitsAt, 49 ask: n", 1, x -> x.fits(0, 0, n), x -> x.fitsAt(0, 0, n, 0), x -> x.ask(0, 0, n), x -> x.fits(0, 3, n));
        }
        refusal(some, "48 fitsAt: what", 1, x -> x.fitsAt(0, 0, 1, -1), x -> x.fitsAt(0, 0, 1, 2), x -> x.fitsAt(0, 3, 1, 2), x -> x.fitsAt(0, 0, 20, 2), x -> x.fitsAt(0, 0, 3, 2));
        refusal(some, "47 fits, 48 fitsAt, 49 ask", 2, x -> x.fits(0, 3, 0), x -> x.fitsAt(0, 3, 20, 0), x -> x.ask(0, 3, 1));
        refusal(some, "47 fits, 48 fitsAt, 49 ask", 3, x -> x.fits(0, 0, 4), x -> x.fitsAt(0, 0, 4, 1), x -> x.ask(0, 0, 4), x -> x.fits(0, 2, 2), x -> x.ask(0, 1, 20));
        refusal(some, "47 fits, 48 fitsAt, 49 ask", 5, x -> x.fits(0, 0, 3), x -> x.fitsAt(0, 0, 3, 0), x -> x.ask(0, 0, 3), x -> x.fits(0, 1, 1));
        refusal(some, "48 fitsAt, 49 ask", 6, x -> x.fitsAt(0, 0, 2, 0), x -> x.fitsAt(0, 0, 2, 1), x -> x.ask(0, 0, 2));
        refusal(some, "50 rests", 1, x -> x.rests(-1, 1), x -> x.rests(x.told(1), 1), x -> x.rests(0, -1), x -> x.rests(0, 21));
        refusal(some, "51 restAt", 1, x -> x.restAt(-1, 1, 0, 0), x -> x.restAt(x.told(1), 1, 0, 0), x -> x.restAt(0, -1, 0, 0), x -> x.restAt(0, 21, 0, 0),
            x -> x.restAt(0, 1, -1, 0), x -> x.restAt(0, 1, 0, -1), x -> x.restAt(0, 1, 0, 2), x -> x.restAt(0, 1, 99, 2));
        refusal(some, "51 restAt", 6, x -> x.restAt(0, 1, 2, 0), x -> x.restAt(0, 1, 2, 1), x -> x.restAt(0, 0, 1, 0), x -> x.restAt(0, 1, MOST, 0));
        refusal(some, "52 game", 1, x -> x.game(-1), x -> x.game(4), x -> x.game(LEAST), x -> x.game(MOST));
        refusal(some, "53 moveOf", 1, x -> x.moveOf(0), x -> x.moveOf(-1), x -> x.moveOf(4), x -> x.moveOf(MOST));
        refusal(RefusalTests::bare, "53 moveOf", 6, x -> x.moveOf(1), x -> x.moveOf(2), x -> x.moveOf(3));
        refusal(RefusalTests::bare, "53 moveOf of none", 1, x -> x.moveOf(0), x -> x.moveOf(4));
        refusal(some, "54 night", 1, x -> asNumber(x.night(-1)), x -> asNumber(x.night(11)), x -> asNumber(x.night(LEAST)), x -> asNumber(x.night(MOST)));
        refusal(some, "55 wakes", 1, x -> asNumber(x.wakes(-1)), x -> asNumber(x.wakes(4)), x -> asNumber(x.wakes(LEAST)), x -> asNumber(x.wakes(MOST)));
        refusal(some, "56 copyYields", 1, x -> x.copyYields(-1), x -> x.copyYields(4), x -> x.copyYields(LEAST));
        refusal(some, "56 copyYields", 2, x -> x.copyYields(3));
        refusal(some, "56 copyYields", 3, x -> x.copyYields(1), x -> x.copyYields(2));
    }

    private static void lives() {
        Supplier<ForgiveCamp> some = RefusalTests::some;
        Supplier<ForgiveCamp> bare = RefusalTests::bare;
        refusal(some, "57 live", 1, x -> x.live(-1), x -> x.live(10000), x -> x.live(LEAST), x -> x.live(MOST));
        refusal(bare, "57 live, no WEEKS", 1, x -> x.live(-1), x -> x.live(10000));
        refusal(bare, "57 live", 6, x -> x.live(0), x -> x.live(9999));
        refusal(some, "58 lived", 1, x -> x.lived(-1), x -> x.lived(5));
        refusal(bare, "58 lived, none was", 1, x -> x.lived(-1), x -> x.lived(5));
        refusal(bare, "58 lived", 6, x -> x.lived(0), x -> x.lived(4));
        refusal(some, "59 mean", 1, x -> asNumber(x.mean(-1, 1)), x -> asNumber(x.mean(10000, 1)), x -> asNumber(x.mean(0, 0)), x -> asNumber(x.mean(0, 21)),
            x -> asNumber(x.mean(9999, 2)), x -> asNumber(x.mean(9990, 11)), x -> asNumber(x.mean(MOST, MOST)), x -> asNumber(x.mean(0, LEAST)));
        refusal(bare, "59 mean, no WEEKS", 1, x -> asNumber(x.mean(9999, 2)), x -> asNumber(x.mean(0, 0)));
        refusal(bare, "59 mean", 6, x -> asNumber(x.mean(0, 1)), x -> asNumber(x.mean(9999, 1)), x -> asNumber(x.mean(9980, 20)));
        refusal(RefusalTests::full, "60 mark", 4, x -> x.mark());
        refusal(bare, "61 undo", 6, x -> x.undo());
    }

    private static void faults() {
        String[] texts = {"boy", "field 2 by 2; boy a at 0 pride 1; boy a at 1 pride 1;", "odds 3; odds 4;", "dawn; end;", "loop 9;", "minute 61;", "?"};
        for (String text : texts) {
            Bench.sentence("with 9 nothing changes but the tape and what fault() tells");
            ForgiveCamp y = emptied();
            Bench.refused("camp: " + text, y, Bench.camp(y, text), 9);
            alike("camp: " + text, allOf(y, true, false), allOf(emptied(), true, false));
            y = emptied();
            Bench.refused("weeks: " + text, y, Bench.weeks(y, text), 9);
            alike("weeks: " + text, allOf(y, true, false), allOf(emptied(), true, false));
            Bench.due("the tape is empty", tapeBehind(text, true), 20);
            Bench.due("the tape is empty", tapeBehind(text, false), 20);
        }
    }

    /** some() with an empty tape. */
    private static ForgiveCamp emptied() {
        ForgiveCamp x = some();
        x.weeks(40);
        return x;
    }

    private static int tapeBehind(String text, boolean camp) {
        ForgiveCamp x = emptied();
        int n = Bench.feed(x, text);
        if (camp) x.camp(n);
        else x.weeks(n);
        return x.feed(0, 0, 0, 0, 0);
    }

    @SafeVarargs
    private static void asks(boolean fractions, ToLongFunction<ForgiveCamp>... calls) {
        for (Supplier<ForgiveCamp> made : List.<Supplier<ForgiveCamp>>of(RefusalTests::some, RefusalTests::full)) {
            List<Long> untouched = allOf(made.get(), fractions, true);
            for (int i = 0; i < calls.length; i++) {
                ForgiveCamp x = made.get();
                calls[i].applyAsLong(x);
                alike("question " + i, allOf(x, fractions, true), untouched);
            }
        }
    }

    private static void questionsChangeNothing() {
        Bench.sentence("what is but asked changes nothing");
        asks(true, x -> x.told(0), x -> x.boy(0, 6), x -> x.quarrel(0, 3), x -> x.far(0, 1), x -> x.hears(0), x -> x.near(0), x -> x.due(0, 0), x -> x.upIn(0),
            x -> x.upBy(200), x -> x.breakfast(), x -> x.overIn(0), x -> x.yielder(0), x -> x.reveille(), x -> x.last(), x -> x.soonest(2), x -> x.soonestIn(4),
            x -> x.best(0), x -> x.bestIn(1), x -> x.ending(), x -> x.endingSet(), x -> x.apart(), x -> x.apartSet(), x -> x.circle(0), x -> x.circles(),
            x -> x.sides(), x -> x.fits(0, 0, 1), x -> x.fitsAt(0, 0, 1, 1), x -> x.ask(0, 0, 1), x -> x.rests(0, 20), x -> x.restAt(0, 20, 0, 0), x -> x.game(3),
            x -> x.moveOf(3), x -> x.lived(0), x -> x.read(0, 0), x -> x.status(), x -> x.top(), x -> x.bottom(), x -> x.fault(0));
        Bench.sentence("what tells a FRACTION changes nothing else");
        asks(false, x -> asNumber(x.night(0)), x -> asNumber(x.wakes(0)), x -> asNumber(x.mean(0, 20)));
    }

    private static void withoutStatus() {
        Bench.sentence("status(), top(), bottom(), feed(), fault() have none");
        ForgiveCamp x = some();
        x.moveOf(0);
        withoutStatus(x, 1);
        x.read(3, 0);
        withoutStatus(x, 2);
        x.read(0, 9);
        withoutStatus(x, 3);
        x.told(0);
        withoutStatus(x, 0);
        for (int i = 0; i < 45; i++) x.feed(0, 0, 0, 0, 0);
        Bench.due("a feed too many", x.feed(0, 0, 0, 0, 0), NONE);
        Bench.due("status()", x.status(), 0);
        Bench.sentence("status: of the latest call that has one");
        Bench.refused("soonest", x, x.soonest(5), 1);
        Bench.due("status() again", x.status(), 1);
        Bench.given("told", x, x.told(0), 4);
        Bench.refused("read", x, x.read(3, 0), 2);
        Bench.given("tray", x, x.tray(3, 0, 1));
    }

    private static void withoutStatus(ForgiveCamp x, int status) {
        Bench.due("status()", x.status(), status);
        Bench.due("status()", x.status(), status);
        x.top();
        Bench.due("top()", x.status(), status);
        x.bottom();
        Bench.due("bottom()", x.status(), status);
        x.feed(0, 0, 0, 0, 0);
        Bench.due("feed()", x.status(), status);
        x.fault(0);
        x.fault(1);
        x.fault(2);
        Bench.due("fault()", x.status(), status);
    }

    @SafeVarargs
    private static void well(ToLongFunction<ForgiveCamp>... calls) {
        for (int i = 0; i < calls.length; i++) {
            ForgiveCamp x = some();
            x.told(9);
            Bench.due("ahead of it", x.status(), 1);
            calls[i].applyAsLong(x);
            Bench.due("status() behind call " + i, x.status(), 0);
        }
    }

    private static void elseNone() {
        Bench.sentence("STATUS .. 0 else, of each call");
        well(x -> asNumber(x.tray(3, 0, 0)), x -> asNumber(x.write(0, 0, 0)), x -> x.read(0, 0), x -> asNumber(x.pour(0, 0, 0, 1, 2)), x -> x.camp(7),
            x -> x.weeks(0), x -> x.told(0), x -> x.boy(0, 0), x -> x.quarrel(0, 0), x -> x.minute(1), x -> x.dawn(), x -> x.boot(0, 1, 0), x -> x.forgive(0),
            x -> x.pitch(0, 8), x -> asNumber(x.teach(0, 1, 1)), x -> asNumber(x.teach(0, 2, 0)), x -> asNumber(x.teach(0, 3, 0)), x -> x.stir(0, 0),
            x -> x.come(0, 1), x -> asNumber(x.rule(0)));
        well(x -> x.far(0, 1), x -> x.hears(0), x -> x.near(0), x -> x.due(0, 0), x -> x.upIn(0), x -> x.upBy(0), x -> x.breakfast(), x -> x.overIn(0),
            x -> x.yielder(0), x -> x.reveille(), x -> x.last(), x -> x.soonest(0), x -> x.soonestIn(0), x -> x.best(0), x -> x.bestIn(0), x -> x.ending(),
            x -> x.endingSet(), x -> x.apart(), x -> x.apartSet(), x -> x.circle(0), x -> x.circles(), x -> x.sides());
        well(x -> x.fits(0, 0, 1), x -> x.fitsAt(0, 0, 1, 0), x -> x.ask(0, 0, 1), x -> x.rests(0, 0), x -> x.restAt(0, 0, 0, 0), x -> x.game(0), x -> x.moveOf(1),
            x -> asNumber(x.night(0)), x -> asNumber(x.wakes(0)), x -> asNumber(x.tray(3, 0, 4)), x -> x.live(0), x -> x.lived(0), x -> asNumber(x.mean(0, 1)),
            x -> x.mark(), x -> x.undo());
        ForgiveCamp x = some();
        x.tray(3, 0, 4);
        x.told(9);
        Bench.given("copyYields", x, x.copyYields(3), 4);
    }

    private static void telling() {
        Bench.sentence("Where a number may be below 0, STATUS tells NONE from -1");
        ForgiveCamp x = some();
        Bench.given("read", x, x.read(1, 0), -1);
        Bench.refused("read", x, x.read(1, 2), 3);
        x.teach(1, 1, 1);
        x.teach(1, 2, 2);
        x.stir(0, 0);
        Bench.given("due", x, x.due(1, 0), -1);
        Bench.refused("due", x, x.due(3, 0), 6);
    }

    private static void manyCalls() {
        Bench.sentence("An object is used for at most 512 calls after it has been made");
        ForgiveCamp x = new ForgiveCamp();
        int calls = 0;
        x.come(0, 30);
        x.come(0, 30);
        x.tray(0, 3, 60);
        for (calls = 3; calls < 509; calls += 6) {
            x.boot(0, 1, 99);
            x.mark();
            x.minute(240);
            x.undo();
            x.forgive(0);
            x.dawn();
        }
        Bench.given("YIELDED in all", x, x.boy(0, 6), 85);
        Bench.given("the latest", x, x.told(1), 0);
    }

    public static void main(String[] args) {
        traysAndTexts();
        deeds();
        questions();
        seen();
        lives();
        faults();
        questionsChangeNothing();
        withoutStatus();
        elseNone();
        telling();
        manyCalls();
        Bench.end("RefusalTests");
    }
}
