import java.nio.charset.StandardCharsets;

/** For each promise of the document: ordinary inputs, the edges that it names, wrong inputs. */
public final class PromiseTests {
    private static final String FOUR = "field 4 by 3; odds 4; boy al at 0 pride 5; boy ben at 1 pride 3 soft 2 ears 1;"
        + " boy cy at 6 pride 10 soft 0 ears 9; boy dan at 11 pride 1; quarrel al ben grudge 4; quarrel ben cy grudge 2;";
    private static final int NONE = ForgiveCamp.NONE;
    private static int wrong = 0;
    private static int promise = 0;

    private static void due(String what, long got, long want) {
        if (got != want) {
            wrong++;
            System.out.println("promise " + promise + ": " + what + " answered " + got + ", due is " + want);
        }
    }

    private static void due(String what, boolean got, boolean want) {
        due(what, got ? 1 : 0, want ? 1 : 0);
    }

    /** A call that gives NONE, with its STATUS. */
    private static void refused(String what, ForgiveCamp x, long got, int status) {
        due(what, got, NONE);
        due(what + " status()", x.status(), status);
    }

    private static void refused(String what, ForgiveCamp x, boolean got, int status) {
        due(what, got, false);
        due(what + " status()", x.status(), status);
    }

    private static void given(String what, ForgiveCamp x, long got, long want) {
        due(what, got, want);
        due(what + " status()", x.status(), 0);
    }

    private static void fraction(String what, ForgiveCamp x, boolean got, long top, long bottom) {
        given(what, x, got ? 1 : 0, 1);
        due(what + " top()", x.top(), top);
        due(what + " bottom()", x.bottom(), bottom);
    }

    private static int feed(ForgiveCamp x, String text) {
        byte[] b = text.getBytes(StandardCharsets.ISO_8859_1);
        int[] five = new int[5];
        for (int i = 0; i < b.length; i += 20) {
            for (int k = 0; k < 5; k++) {
                five[k] = 0;
                for (int j = 0; j < 4; j++) five[k] = five[k] << 8 | (i + 4 * k + j < b.length ? b[i + 4 * k + j] & 255 : 0);
            }
            x.feed(five[0], five[1], five[2], five[3], five[4]);
        }
        return b.length;
    }

    private static int camp(ForgiveCamp x, String text) {
        return x.camp(feed(x, text));
    }

    private static int weeks(ForgiveCamp x, String text) {
        return x.weeks(feed(x, text));
    }

    private static ForgiveCamp four() {
        ForgiveCamp x = new ForgiveCamp();
        given("camp(FOUR)", x, camp(x, FOUR), 4);
        return x;
    }

    private static void campFault(String text, int fault, int place) {
        ForgiveCamp x = four();
        refused(text, x, camp(x, text), 9);
        due(text + " fault(0)", x.fault(0), fault);
        due(text + " fault(1)", x.fault(1), place);
        due("the old CAMP stays", x.told(1), 2);
    }

    private static void campTaken(String text, int boys) {
        ForgiveCamp x = new ForgiveCamp();
        given(text, x, camp(x, text), boys);
        due(text + " fault(0)", x.fault(0), 0);
        due(text + " fault(1)", x.fault(1), NONE);
    }

    private static void weeksFault(String text, int fault, int place) {
        ForgiveCamp x = four();
        refused(text, x, weeks(x, text), 9);
        due(text + " fault(0)", x.fault(0), fault);
        due(text + " fault(1)", x.fault(1), place);
    }

    private static ForgiveCamp weeksTaken(String text, int steps) {
        ForgiveCamp x = four();
        given(text, x, weeks(x, text), steps);
        due(text + " fault(0)", x.fault(0), 0);
        due(text + " fault(1)", x.fault(1), NONE);
        return x;
    }

    private static String times(String text, int many) {
        return text.repeat(many);
    }

    private static void lives(String text, int seed, int steps, int... told) {
        ForgiveCamp x = four();
        weeks(x, text);
        given(text, x, x.live(seed), steps);
        for (int i = 0; i < told.length; i++) given(text + " lived(" + i + ")", x, x.lived(i), told[i]);
    }

    private static void newObjectAndStatus() {
        promise = 1;
        ForgiveCamp x = new ForgiveCamp();
        due("status()", x.status(), 0);
        due("top()", x.top(), 0);
        due("bottom()", x.bottom(), 1);
        int[] told = {0, 0, 4, 3, 4, 0, 0, 0, 0};
        for (int i = 0; i < told.length; i++) given("told " + i, x, x.told(i), told[i]);
        for (int t = 0; t < 4; t++) refused("read", x, x.read(t, 0), 2);
        refused("live", x, x.live(0), 6);
        refused("undo", x, x.undo(), 6);
        refused("camp(1)", x, x.camp(1), 1);
        given("camp(0)", x, x.camp(0), 0);

        promise = 2;
        refused("told(9)", x, x.told(9), 1);
        x.top();
        x.bottom();
        x.feed(0, 0, 0, 0, 0);
        x.fault(0);
        x.fault(7);
        due("status() behind calls without one", x.status(), 1);
        given("told(0)", x, x.told(0), 0);

        promise = 3;
        x = four();
        fraction("night(1)", x, x.night(1), 7, 16);
        refused("night(11)", x, x.night(11), 1);
        due("top() behind a refused call", x.top(), 7);
        promise = 4;
        due("bottom() behind a refused call", x.bottom(), 16);
        x.rule(0);
        fraction("night(0) without odds", x, x.night(0), 0, 1);
    }

    private static void trays() {
        promise = 5;
        ForgiveCamp x = new ForgiveCamp();
        refused("tray(-1)", x, x.tray(-1, 0, 1), 1);
        refused("tray(4)", x, x.tray(4, 0, 1), 1);
        refused("tray sort -1", x, x.tray(0, -1, 1), 1);
        refused("tray sort 4", x, x.tray(0, 4, 1), 1);
        refused("tray many -1", x, x.tray(0, 0, -1), 1);
        refused("tray many 61", x, x.tray(0, 0, 61), 1);
        refused("still MISSING", x, x.read(0, 0), 2);
        given("tray many 0", x, x.tray(0, 0, 0) ? 1 : 0, 1);
        refused("no place 0", x, x.read(0, 0), 3);
        given("tray many 60", x, x.tray(3, 3, 60) ? 1 : 0, 1);
        given("the last place", x, x.read(3, 59), 0);
        x.write(3, 59, 5);
        x.tray(3, 3, 60);
        given("0s again", x, x.read(3, 59), 0);

        promise = 6;
        long[] cut = {-1, -1, 4294967295L, 4294967295L};
        long[] all = {255, 65535, 4294967295L, 4294967295L};
        for (int sort = 0; sort < 4; sort++) {
            x.tray(1, sort, 2);
            given("write", x, x.write(1, 1, all[sort]) ? 1 : 0, 1);
            given("read sort " + sort, x, x.read(1, 1), sort == 2 ? -1 : cut[sort]);
            x.write(1, 1, 100);
            given("read 100", x, x.read(1, 1), 100);
        }
        x.tray(1, 0, 2);
        x.write(1, 0, 128);
        given("8 bits", x, x.read(1, 0), -128);
        x.tray(1, 3, 2);
        x.write(1, 0, Long.MIN_VALUE);
        given("64 bits", x, x.read(1, 0), Long.MIN_VALUE);
        refused("write tray 4", x, x.write(4, 0, 1), 1);
        refused("write MISSING", x, x.write(2, 0, 1), 2);
        refused("write place 2", x, x.write(1, 2, 1), 3);
        refused("write place -1", x, x.write(1, -1, 1), 3);

        promise = 7;
        refused("read tray -1", x, x.read(-1, 0), 1);
        refused("read MISSING", x, x.read(2, 0), 2);
        refused("read place -1", x, x.read(1, -1), 3);
        refused("read place 2", x, x.read(1, 2), 3);
        x.write(1, 1, -1);
        given("read -1", x, x.read(1, 1), -1);
    }

    private static void pouring() {
        promise = 8;
        ForgiveCamp x = new ForgiveCamp();
        x.tray(0, 1, 5);
        x.tray(1, 1, 4);
        x.tray(2, 2, 4);
        for (int i = 0; i < 5; i++) x.write(0, i, i + 1);
        given("pour", x, x.pour(0, 1, 1, 0, 4) ? 1 : 0, 1);
        for (int i = 0; i < 4; i++) due("poured " + i, x.read(1, i), i + 2);
        given("pour onto its own, forward", x, x.pour(0, 0, 0, 1, 4) ? 1 : 0, 1);
        int[] forward = {1, 1, 2, 3, 4};
        for (int i = 0; i < 5; i++) due("as they were " + i, x.read(0, i), forward[i]);
        x.pour(0, 2, 0, 1, 3);
        int[] back = {1, 2, 3, 4, 4};
        for (int i = 0; i < 5; i++) due("as they were " + i, x.read(0, i), back[i]);
        given("none", x, x.pour(0, 5, 1, 4, 0) ? 1 : 0, 1);
        refused("from 4", x, x.pour(4, 0, 0, 0, 0), 1);
        refused("to -1", x, x.pour(0, 0, -1, 0, 0), 1);
        refused("place -1 ahead of MISSING", x, x.pour(3, -1, 0, 0, 0), 1);
        refused("at -1", x, x.pour(0, 0, 1, -1, 0), 1);
        refused("many -1", x, x.pour(0, 0, 1, 0, -1), 1);
        refused("from MISSING", x, x.pour(3, 0, 0, 0, 0), 2);
        refused("to MISSING ahead of places", x, x.pour(0, 0, 3, 0, 90), 2);
        refused("unlike ahead of places", x, x.pour(0, 0, 2, 0, 90), 8);
        refused("too many", x, x.pour(0, 2, 1, 0, 4), 3);
        refused("too few places", x, x.pour(0, 0, 1, 1, 4), 3);
        refused("far beyond", x, x.pour(0, 1, 1, 0, Integer.MAX_VALUE), 3);
        refused("place beyond", x, x.pour(0, 6, 1, 0, 0), 3);
        due("nothing changed", x.read(1, 3), 5);
    }

    private static void feeding() {
        promise = 9;
        ForgiveCamp x = new ForgiveCamp();
        refused("told(-1)", x, x.told(-1), 1);
        for (int i = 1; i <= 45; i++) due("feed", x.feed(0x20202020, 0x20202020, 0x20202020, 0x20202020, 0x20202020), 20 * i);
        due("a 46th", x.feed(0, 0, 0, 0, 0), NONE);
        due("feed has no STATUS", x.status(), 1);
        given("900 blanks", x, x.camp(900), 0);
        // "boy " "a at" " 0 p" "ride" " 9; " with the highest byte first.
        due("feed", x.feed(0x626f7920, 0x61206174, 0x20302070, 0x72696465, 0x20393b20), 20);
        given("camp", x, x.camp(20), 1);
        due("pride", x.boy(0, 1), 9);
        due("the tape is empty", x.feed(0, 0, 0, 0, 0), 20);
    }

    private static void camps() {
        promise = 10;
        ForgiveCamp x = four();
        int[][] boys = {{0, 5, 1, 2}, {1, 3, 2, 1}, {6, 10, 0, 9}, {11, 1, 1, 2}};
        for (int b = 0; b < 4; b++) for (int w = 0; w < 4; w++) given("boy " + b + " " + w, x, x.boy(b, w), boys[b][w]);
        weeks(x, "dawn;");
        x.minute(7);
        feed(x, "boy a at 35 pride 1;");
        refused("camp(-1)", x, x.camp(-1), 1);
        refused("camp(21)", x, x.camp(21), 1);
        refused("no such CELL", x, x.camp(20), 9);
        due("the tape is empty behind a FAULT", x.feed(0, 0, 0, 0, 0), 20);
        due("the old MINUTE stays", x.told(5), 7);
        given("the old WEEKS stay", x, x.live(0), 1);
        refused("camp behind the tape", x, x.camp(21), 1);
        given("camp(0)", x, x.camp(0), 0);
        due("MINUTE 0", x.told(5), 0);
        refused("no WEEKS", x, x.live(0), 6);
        given("all open", x, camp(x, FOUR), 4);
        due("OPEN", x.told(7), 3);
        campTaken("", 0);
        campTaken("\n \n", 0);
        campTaken("field6by6;odds16;boy a at 35 pride 30 soft 9 ears 9;boy b at 0 pride 1 soft 0 ears 0;quarrel a b grudge 99;quarrel b a grudge 0;", 2);
        campTaken("odds 0; field 0001 by 1; boy hannibal at 0 pride 1 ears 3;", 1);
        campTaken("boy z at 0 pride 1;boy az at 0 pride 1;boy zaz at 0 pride 1; quarrel zaz az grudge 3;", 3);
        campTaken("boy abcdefgh at 0 pride 1;boy abcdefg at 0 pride 1;boy bcdefgh at 0 pride 1;", 3);
        x = new ForgiveCamp();
        camp(x, "boy a at 2 pride 4 ears 7;boy b at 2 pride 4 soft 6;");
        due("SOFT without", x.boy(0, 2), 1);
        due("EARS with", x.boy(0, 3), 7);
        due("SOFT with", x.boy(1, 2), 6);
        due("EARS without", x.boy(1, 3), 2);
    }

    private static void campFaults() {
        promise = 10;
        campFault("A", 1, 0);
        campFault(" boy a at 0 pride 1;\t", 1, 20);
        campFault("odds 12345;", 1, 5);
        campFault("odds \0;", 1, 5);
        campFault("field field", 2, 6);
        campFault("odds <", 2, 5);
        campFault("odds", 2, 4);
        campFault("odds 3  ", 2, 8);
        campFault("odds 3; minute 3;", 2, 8);
        campFault("odds 3;;", 2, 7);
        campFault("7", 2, 0);
        campFault("al", 2, 0);
        campFault("fields 4 by 3;", 2, 0);
        campFault("boy abcdefghi at 0 pride 1;", 2, 4);
        for (String word : ("field by odds boy at pride soft ears quarrel grudge minute dawn yield pitch any when up open"
            + " now loop end stop").split(" ")) campFault("boy " + word + " at 0 pride 1;", 2, 4);
        campFault("boy a at 0 pride 1 ears 1 soft 1;", 2, 26);
        campFault("boy a at 0 pride 1; quarrel a any", 2, 30);
        campFault("boy a at 0 pride 1; boy a", 3, 24);
        campFault("quarrel b a grudge 1;", 3, 8);
        campFault("boy a at 0 pride 1; quarrel a b", 3, 30);
        campFault("field 0 by 3;", 4, 6);
        campFault("field 7 by 3;", 4, 6);
        campFault("field 4 by 0;", 4, 11);
        campFault("field 4 by 7;", 4, 11);
        campFault("odds 17;", 4, 5);
        campFault("boy a at 12 pride 1;", 4, 9);
        campFault("field 2 by 2; boy a at 4 pride 1;", 4, 23);
        campFault("boy a at 0 pride 0;", 4, 17);
        campFault("boy a at 0 pride 31;", 4, 17);
        campFault("boy a at 0 pride 1 soft 10;", 4, 24);
        campFault("boy a at 0 pride 1 ears 10;", 4, 24);
        campFault("boy a at 0 pride 1; boy b at 0 pride 1; quarrel a b grudge 100;", 4, 59);
        campFault("odds 1; odds 1;", 5, 8);
        campFault("field 1 by 1; field 1 by 1;", 5, 14);
        campFault("boy a at 0 pride 1; field 4 by 3;", 5, 20);
        campFault("boy a at 0 pride 1; quarrel a a", 5, 30);
        String eight = "";
        for (char c = 'a'; c < 'i'; c++) eight += "boy " + c + " at 0 pride 1;";
        campTaken(eight, 8);
        campFault(eight + "boy", 6, eight.length());
        String ten = eight + times("quarrel a b grudge 1;", 10);
        campTaken(ten, 8);
        campFault(ten + "quarrel z", 6, ten.length());
    }

    private static void weeksTexts() {
        promise = 11;
        weeksTaken("", 0);
        weeksTaken("minute 60; dawn; quarrel al al 99; yield dan; pitch cy 11; any; stop;", 7);
        weeksTaken("when up al; end; when open < 10; any; end; when now = 9999; end; loop 99; stop; end; when open>0;end;", 7);
        weeksTaken("loop 1; loop 1; loop 1; dawn; end; end; end;", 4);
        weeksTaken(times("any;", 30), 30);
        ForgiveCamp x = weeksTaken("any;" + times(" ", 296), 1);
        feed(x, "any;" + times(" ", 297));
        refused("weeks(301)", x, x.weeks(301), 1);
        refused("weeks(-1)", x, x.weeks(-1), 1);
        given("the tape stays", x, x.weeks(300), 1);
        refused("more than the tape has", x, x.weeks(1), 1);
        refused("a FAULT", x, weeks(x, "dawn; any"), 9);
        due("the tape is empty", x.feed(0, 0, 0, 0, 0), 20);
        given("the old WEEKS stay", x, x.live(0), 1);
        weeksFault("loop 12345; end;", 1, 5);
        weeksFault("dawn; ?", 1, 6);
        weeksFault("end;", 2, 0);
        weeksFault("dawn; end;", 2, 6);
        weeksFault("loop 2; dawn; ", 2, 14);
        weeksFault("when open <", 2, 11);
        weeksFault("when open ; 3;", 2, 10);
        weeksFault("when al up;", 2, 5);
        weeksFault("when open <= 3; end;", 2, 11);
        weeksFault("yield abcdefghi;", 2, 6);
        weeksFault("yield up;", 2, 6);
        weeksFault("quarrel al ben grudge 3;", 2, 15);
        weeksFault("boy a at 0 pride 1;", 2, 0);
        weeksFault("yield eve;", 3, 6);
        weeksFault("quarrel al eve 3;", 3, 11);
        weeksFault("when up eve; end;", 3, 8);
        weeksFault("pitch eve 0;", 3, 6);
        weeksFault("minute 0;", 4, 7);
        weeksFault("minute 61;", 4, 7);
        weeksFault("quarrel al ben 100;", 4, 15);
        weeksFault("pitch al 12;", 4, 9);
        weeksFault("when open < 11; end;", 4, 12);
        weeksFault("loop 0; end;", 4, 5);
        weeksFault("loop 100; end;", 4, 5);
        weeksFault(times("any;", 30) + "stop;", 6, 120);
        weeksFault(times("any;", 27) + "loop 1; loop 1; loop 1; loop 1;", 6, 132);
        weeksFault("loop 1; loop 1; loop 1; when up al; end;", 7, 24);
        weeksFault("loop 1; when up al; loop 1; loop 1; end;", 7, 28);
    }

    private static void faultsAndTold() {
        promise = 12;
        ForgiveCamp x = new ForgiveCamp();
        due("fault(0) ahead", x.fault(0), NONE);
        due("fault(1) ahead", x.fault(1), NONE);
        x.camp(-1);
        due("fault(0) behind STATUS 1", x.fault(0), NONE);
        camp(x, "odds 17;");
        due("fault(0)", x.fault(0), 4);
        due("fault(1)", x.fault(1), 5);
        due("fault(2)", x.fault(2), NONE);
        due("fault(-1)", x.fault(-1), NONE);
        x.weeks(1);
        due("fault(0) as it was", x.fault(0), 4);
        weeks(x, "dawn;");
        due("fault(0) without", x.fault(0), 0);
        due("fault(1) without", x.fault(1), NONE);

        promise = 13;
        x = four();
        x.rule(9);
        x.minute(6);
        int[] told = {4, 2, 4, 3, 9, 6, 12, 1, 4};
        for (int i = 0; i < told.length; i++) given("told " + i, x, x.told(i), told[i]);
        refused("told(-1)", x, x.told(-1), 1);
        refused("told(9)", x, x.told(9), 1);
    }

    private static void boysAndQuarrels() {
        promise = 14;
        ForgiveCamp x = four();
        int[] ben = {1, 3, 2, 1, 0, 2, 0};
        int[] dan = {11, 1, 1, 2, 1, 0, 0};
        for (int w = 0; w < 7; w++) given("ben " + w, x, x.boy(1, w), ben[w]);
        for (int w = 0; w < 7; w++) given("dan " + w, x, x.boy(3, w), dan[w]);
        x.minute(8);
        int[] later = {1, 3, 2, 1, 1, 0, 2};
        for (int w = 0; w < 7; w++) given("ben later " + w, x, x.boy(1, w), later[w]);
        due("al has not YIELDED", x.boy(0, 6), 0);
        x.dawn();
        due("YIELDED in all", x.boy(1, 6), 2);
        refused("boy(-1)", x, x.boy(-1, 0), 1);
        refused("boy(4)", x, x.boy(4, 0), 1);
        refused("what -1", x, x.boy(0, -1), 1);
        refused("what 7", x, x.boy(0, 7), 1);

        promise = 15;
        x = four();
        x.boot(3, 0, 99);
        int[][] all = {{0, 1, 4, 0}, {1, 2, 2, 0}, {3, 0, 99, 0}};
        for (int q = 0; q < 3; q++) for (int w = 0; w < 4; w++) given("quarrel " + q + " " + w, x, x.quarrel(q, w), all[q][w]);
        x.forgive(1);
        due("the second", x.quarrel(0, 3), 2);
        due("the first", x.quarrel(1, 3), 1);
        due("OPEN", x.quarrel(2, 3), 0);
        x = new ForgiveCamp();
        camp(x, "boy a at 0 pride 2; boy b at 0 pride 2; quarrel a b grudge 0;");
        x.minute(3);
        due("both", x.quarrel(0, 3), 3);
        due("both count", x.boy(0, 6) + 10 * x.boy(1, 6), 11);
        refused("quarrel(-1)", x, x.quarrel(-1, 0), 1);
        refused("quarrel(1)", x, x.quarrel(1, 0), 1);
        refused("what -1", x, x.quarrel(0, -1), 1);
        refused("what 4", x, x.quarrel(0, 4), 1);
    }

    private static void minutesAndDawns() {
        promise = 16;
        ForgiveCamp x = four();
        given("minute(5)", x, x.minute(5), 0);
        given("minute(1)", x, x.minute(1), 1);
        given("minute(1)", x, x.minute(1), 0);
        given("minute(240)", x, x.minute(240), 1);
        refused("minute(0)", x, x.minute(0), 1);
        refused("minute(241)", x, x.minute(241), 1);
        for (int i = 0; i < 40; i++) x.minute(240);
        due("MINUTE", x.told(5), 9847);
        refused("above 9,999", x, x.minute(153), 4);
        given("to 9,999", x, x.minute(152), 0);
        refused("one more", x, x.minute(1), 4);
        due("MINUTE", x.told(5), 9999);
        x.boot(0, 3, 99);
        given("BREAKFAST beyond 9,999", x, x.breakfast(), 1);

        x = new ForgiveCamp();
        camp(x, "boy a at 0 pride 1 soft 0;boy b at 0 pride 30 soft 0;");
        for (int i = 0; i < 10; i++) x.boot(0, 1, 5 * i);
        given("ten that are over one by one", x, x.breakfast(), 47);
        given("nine and a half", x, x.minute(46), 9);
        given("ten", x, x.minute(1), 1);
        x.dawn();
        for (int i = 0; i < 10; i++) x.boot(0, 1, 5 * i);
        given("ten at a stroke", x, x.minute(240), 10);
        due("MINUTE", x.told(5), 240);

        promise = 17;
        x = four();
        x.boot(3, 0, 50);
        x.minute(6);
        given("dawn()", x, x.dawn(), 1);
        due("MINUTE 0", x.told(5), 0);
        due("QUARRELS", x.told(1), 2);
        due("a number less", x.quarrel(1, 0), 3);
        due("a number less", x.quarrel(1, 2), 50);
        due("as it was", x.quarrel(0, 2), 4);
        given("dawn() once more", x, x.dawn(), 0);
        given("it begins anew", x, x.upIn(1), 8);
    }

    private static void whatIsDone() {
        promise = 18;
        ForgiveCamp x = four();
        given("boot", x, x.boot(3, 2, 0), 2);
        due("OPEN", x.told(7), 7);
        refused("himself", x, x.boot(1, 1, 0), 1);
        refused("no such BOY", x, x.boot(4, 1, 0), 1);
        refused("no such other", x, x.boot(1, -1, 0), 1);
        refused("GRUDGE 100", x, x.boot(0, 1, 100), 1);
        refused("GRUDGE -1", x, x.boot(0, 1, -1), 1);
        for (int i = 3; i < 10; i++) given("boot", x, x.boot(0, 1, 99), i);
        x.forgive(0);
        refused("an 11th, those that are over count", x, x.boot(0, 1, 0), 4);
        refused("a wrong 11th", x, x.boot(0, 0, 0), 1);
        x.dawn();
        given("room again", x, x.boot(0, 1, 0), 2);

        promise = 19;
        x = four();
        given("forgive(1)", x, x.forgive(1), 2);
        due("all UP", x.told(6), 15);
        due("YIELDED", x.boy(1, 6), 2);
        refused("he is UP", x, x.forgive(1), 7);
        refused("he is UP", x, x.forgive(3), 7);
        refused("no such", x, x.forgive(4), 1);
        refused("no such", x, x.forgive(-1), 1);

        promise = 20;
        x = four();
        given("pitch", x, x.pitch(0, 11), 0);
        due("CELL", x.boy(0, 0), 11);
        refused("he is there", x, x.pitch(0, 11), 7);
        refused("no such CELL", x, x.pitch(0, 12), 1);
        refused("no such CELL", x, x.pitch(0, -1), 1);
        refused("no such BOY", x, x.pitch(4, 0), 1);
        due("near there", x.near(0), 12);
    }

    private static void whatElseIsDone() {
        promise = 21;
        ForgiveCamp x = four();
        int[][] edges = {{1, 1, 30, 0, 31}, {2, 0, 9, -1, 10}, {3, 0, 9, -1, 10}};
        for (int[] e : edges) {
            for (int i = 1; i < 3; i++) {
                given("teach", x, x.teach(2, e[0], e[i]) ? 1 : 0, 1);
                due("taught", x.boy(2, e[0]), e[i]);
            }
            for (int i = 3; i < 5; i++) refused("teach", x, x.teach(2, e[0], e[i]), 1);
        }
        refused("what 0", x, x.teach(2, 0, 5), 1);
        refused("what 4", x, x.teach(2, 4, 5), 1);
        refused("no such", x, x.teach(4, 1, 5), 1);
        x.teach(1, 3, 9);
        due("new EARS", x.near(1), 13);

        promise = 22;
        given("stir", x, x.stir(0, 99), 4);
        given("stir back", x, x.stir(0, 0), 99);
        due("GRUDGE", x.quarrel(0, 2), 0);
        refused("100", x, x.stir(0, 100), 1);
        refused("-1", x, x.stir(0, -1), 1);
        refused("no such", x, x.stir(2, 1), 1);
        x.forgive(0);
        refused("it is over", x, x.stir(0, 5), 7);
        due("GRUDGE stays", x.quarrel(0, 2), 0);

        promise = 23;
        given("come", x, x.come(11, 30), 4);
        int[] his = {11, 30, 1, 2, 1, 0, 0};
        for (int w = 0; w < 7; w++) due("he " + w, x.boy(4, w), his[w]);
        due("near him", x.near(4), 12);
        due("near dan", x.near(3), 20);
        refused("no such CELL", x, x.come(12, 1), 1);
        refused("PRIDE 0", x, x.come(0, 0), 1);
        refused("PRIDE 31", x, x.come(0, 31), 1);
        for (int b = 5; b < 8; b++) given("come", x, x.come(0, 1), b);
        refused("a ninth", x, x.come(0, 1), 4);
        refused("a wrong ninth", x, x.come(-1, 1), 1);

        promise = 24;
        given("rule(16)", x, x.rule(16) ? 1 : 0, 1);
        due("ODDS", x.told(4), 16);
        given("rule(0)", x, x.rule(0) ? 1 : 0, 1);
        refused("rule(17)", x, x.rule(17), 1);
        refused("rule(-1)", x, x.rule(-1), 1);
        due("ODDS stay", x.told(4), 0);
    }

    private static void whoHearsWhom() {
        promise = 25;
        ForgiveCamp x = four();
        int[][] far = {{0, 1, 3, 5}, {1, 0, 2, 4}, {3, 2, 0, 2}, {5, 4, 2, 0}};
        for (int a = 0; a < 4; a++) for (int b = 0; b < 4; b++) given("far", x, x.far(a, b), far[a][b]);
        refused("far(4, 0)", x, x.far(4, 0), 1);
        refused("far(0, -1)", x, x.far(0, -1), 1);

        promise = 26;
        int[] hears = {0, 0, 8, 0};
        for (int b = 0; b < 4; b++) given("hears", x, x.hears(b), hears[b]);
        refused("hears(4)", x, x.hears(4), 1);
        refused("hears(-1)", x, x.hears(-1), 1);

        promise = 27;
        int[] near = {2, 1, 11, 4};
        for (int b = 0; b < 4; b++) given("near", x, x.near(b), near[b]);
        refused("near(4)", x, x.near(4), 1);
        x.forgive(1);
        for (int b = 0; b < 4; b++) given("hears if all are UP", x, x.hears(b), near[b]);

        promise = 28;
        x = four();
        given("due(0, 0)", x, x.due(0, 0), 9);
        given("due(1, 0)", x, x.due(1, 0), 7);
        given("due(1, 1)", x, x.due(1, 1), 5);
        given("due(2, 1)", x, x.due(2, 1), 12);
        x.pitch(3, 1);
        given("by one more", x, x.due(1, 1), 3);
        x.teach(1, 2, 9);
        given("below 0", x, x.due(1, 1), -4);
        x.stir(1, 5);
        given("-1", x, x.due(1, 1), -1);
        refused("not in it", x, x.due(3, 0), 6);
        refused("no such BOY", x, x.due(4, 0), 1);
        refused("no such QUARREL", x, x.due(0, 2), 1);
        x.forgive(0);
        refused("over", x, x.due(1, 0), 7);
        refused("not in it, and over", x, x.due(3, 0), 6);
    }

    private static void mornings() {
        ForgiveCamp x = four();
        promise = 29;
        int[] up = {8, 8, 6, 0};
        for (int b = 0; b < 4; b++) given("upIn", x, x.upIn(b), up[b]);
        refused("upIn(4)", x, x.upIn(4), 1);
        refused("upIn(-1)", x, x.upIn(-1), 1);

        promise = 30;
        int[][] by = {{0, 8}, {5, 8}, {6, 12}, {7, 12}, {8, 15}, {200, 15}};
        for (int[] b : by) given("upBy " + b[0], x, x.upBy(b[0]), b[1]);
        refused("upBy(-1)", x, x.upBy(-1), 1);
        refused("upBy(201)", x, x.upBy(201), 1);

        promise = 31;
        given("breakfast", x, x.breakfast(), 8);
        promise = 32;
        given("overIn(0)", x, x.overIn(0), 8);
        given("overIn(1)", x, x.overIn(1), 6);
        refused("overIn(2)", x, x.overIn(2), 1);
        promise = 33;
        given("yielder(0)", x, x.yielder(0), 2);
        given("yielder(1)", x, x.yielder(1), 1);
        refused("yielder(-1)", x, x.yielder(-1), 1);
        promise = 34;
        given("reveille", x, x.reveille(), 1);
        promise = 35;
        given("last", x, x.last(), 0);
        due("nothing has gone by", x.told(5), 0);

        x.minute(6);
        promise = 32;
        given("overIn, over", x, x.overIn(1), 0);
        promise = 33;
        given("yielder, over", x, x.yielder(1), 1);
        promise = 31;
        given("breakfast", x, x.breakfast(), 2);
        x.minute(2);
        given("breakfast, all UP", x, x.breakfast(), 0);
        promise = 34;
        refused("reveille, all UP", x, x.reveille(), 6);
        promise = 35;
        given("last, all UP", x, x.last(), 0);
        x = new ForgiveCamp();
        refused("last without BOYS", x, x.last(), 6);
        camp(x, "boy a at 0 pride 9; boy b at 0 pride 2; boy c at 0 pride 2; quarrel c b grudge 0; quarrel a b grudge 3;");
        promise = 33;
        given("both", x, x.yielder(0), 3);
        promise = 34;
        given("the first by numbers", x, x.reveille(), 1);
        promise = 31;
        camp(x, "boy a at 0 pride 30; boy b at 0 pride 30; quarrel a b grudge 99;");
        given("the latest there is", x, x.breakfast(), 130);
    }

    private static void whatToDo() {
        ForgiveCamp x = four();
        promise = 36;
        int[] sets = {0, 2, 3, 7, 15};
        for (int k = 0; k < 5; k++) given("soonest " + k, x, x.soonest(k), sets[k]);
        refused("soonest(-1)", x, x.soonest(-1), 1);
        refused("soonest(5)", x, x.soonest(5), 1);
        promise = 37;
        int[] in = {8, 0, 0, 0, 0};
        for (int k = 0; k < 5; k++) given("soonestIn " + k, x, x.soonestIn(k), in[k]);
        refused("soonestIn(-1)", x, x.soonestIn(-1), 1);
        refused("soonestIn(5)", x, x.soonestIn(5), 1);
        ForgiveCamp two = new ForgiveCamp();
        camp(two, "boy a at 0 pride 2; boy b at 0 pride 2;");
        refused("not so many", two, two.soonestIn(3), 6);
        promise = 36;
        refused("not so many", two, two.soonest(3), 6);

        promise = 38;
        given("best(3)", x, x.best(3), 0);
        refused("best(4)", x, x.best(4), 1);
        promise = 39;
        given("bestIn(3)", x, x.bestIn(3), 6);
        refused("bestIn(-1)", x, x.bestIn(-1), 1);
        due("he is where he was", x.boy(3, 0), 11);

        promise = 40;
        given("ending", x, x.ending(), 1);
        promise = 41;
        given("endingSet", x, x.endingSet(), 2);
        promise = 42;
        given("apart", x, x.apart(), 1);
        promise = 43;
        given("apartSet", x, x.apartSet(), 1);
        x.boot(2, 3, 1);
        given("apartSet", x, x.apartSet(), 5);
        promise = 42;
        given("apart", x, x.apart(), 2);
        promise = 41;
        given("endingSet, the least of several", x, x.endingSet(), 5);
        promise = 40;
        given("ending", x, x.ending(), 2);
    }

    private static void circlesAndSides() {
        ForgiveCamp x = four();
        promise = 44;
        int[] circle = {7, 7, 7, 8};
        for (int b = 0; b < 4; b++) given("circle", x, x.circle(b), circle[b]);
        refused("circle(4)", x, x.circle(4), 1);
        refused("circle(-1)", x, x.circle(-1), 1);
        promise = 45;
        given("circles", x, x.circles(), 2);
        promise = 46;
        given("sides", x, x.sides(), 2);
        x.boot(2, 3, 9);
        given("sides of a row", x, x.sides(), 5);
        x.boot(2, 0, 9);
        refused("sides of three", x, x.sides(), 6);
        x.forgive(1);
        given("over ones do not matter", x, x.sides(), 4);
        promise = 44;
        given("over ones do not matter", x, x.circle(0), 13);
        promise = 45;
        given("one who is UP is one", x, x.circles(), 2);
        x.forgive(2);
        given("all UP", x, x.circles(), 4);
        promise = 40;
        given("none", x, x.ending() + x.endingSet() + x.apart() + x.apartSet(), 0);
        given("sides of none", x, x.sides(), 0);
        // A long row, told from its far end, is one CIRCLE all the same.
        x = new ForgiveCamp();
        camp(x, "boy a at 0 pride 1;boy b at 0 pride 1;boy c at 0 pride 1;boy d at 0 pride 1;boy e at 0 pride 1;boy f at 0 pride 1;"
            + "boy g at 0 pride 1;boy h at 0 pride 1;quarrel g h grudge 1;quarrel f g grudge 1;quarrel e f grudge 1;"
            + "quarrel d e grudge 1;quarrel c d grudge 1;quarrel b c grudge 1;quarrel a b grudge 1;");
        promise = 44;
        given("circle of a row", x, x.circle(0), 255);
        promise = 45;
        given("circles of a row", x, x.circles(), 1);
        promise = 46;
        given("sides of a row", x, x.sides(), 85);
        promise = 43;
        given("apartSet of a row", x, x.apartSet(), 0x55);
    }

    private static void whatWasSeen() {
        ForgiveCamp x = four();
        x.tray(0, 2, 4);
        x.write(0, 0, 2);
        x.write(0, 1, 13);
        x.write(0, 2, 1);
        x.write(0, 3, 13);
        promise = 47;
        given("fits", x, x.fits(1, 0, 1), 19);
        given("fits by two", x, x.fits(1, 0, 2), 19);
        given("fits by none", x, x.fits(1, 0, 0), 30);
        promise = 48;
        given("the least", x, x.fitsAt(1, 0, 1, 0), 12);
        given("the greatest", x, x.fitsAt(1, 0, 1, 1), 30);
        promise = 49;
        given("ask by none", x, x.ask(1, 0, 0), 1);
        given("ask, none parts them", x, x.ask(1, 0, 1), 0);
        due("his own PRIDE stays", x.boy(1, 1), 3);
        x.write(0, 1, 6);
        promise = 47;
        given("fits one", x, x.fits(1, 0, 1), 1);
        given("fits none", x, x.fits(1, 0, 2), 0);
        promise = 48;
        given("that one", x, x.fitsAt(1, 0, 1, 1), 3);
        refused("none", x, x.fitsAt(1, 0, 2, 0), 6);
        promise = 49;
        refused("fewer than two", x, x.ask(1, 0, 1), 6);
        edgesOfClues();
        x.tray(2, 0, 60);
        x.tray(3, 0, 0);
        clueRefused(x, 4, 0, 1, 1);
        clueRefused(x, -1, 0, 1, 1);
        clueRefused(x, 1, 4, 1, 1);
        clueRefused(x, 1, 0, -1, 1);
        clueRefused(x, 1, 0, 21, 1);
        clueRefused(x, 1, 1, 0, 2);
        clueRefused(x, 1, 0, 3, 3);
        promise = 47;
        given("20 twos: BOY 0 is not UP at once", x, x.fits(1, 2, 20), 0);
        given("no twos of a TRAY without places", x, x.fits(1, 3, 0), 30);
        x.write(0, 0, 4);
        clueRefused(x, 1, 0, 1, 5);
        x.write(0, 0, -1);
        clueRefused(x, 1, 0, 1, 5);
        x.write(0, 0, 3);
        x.write(0, 1, 201);
        clueRefused(x, 1, 0, 1, 5);
        x.write(0, 1, -1);
        clueRefused(x, 1, 0, 1, 5);
        x.write(0, 1, 0);
        promise = 47;
        given("dan is UP now", x, x.fits(1, 0, 1), 30);
        promise = 48;
        refused("what 2", x, x.fitsAt(1, 1, 0, 2), 1);
        refused("what -1", x, x.fitsAt(1, 0, 0, -1), 1);
    }

    /** At first the BOY a is UP behind two MINUTES more than his PRIDE, as the GRUDGE of his later QUARREL is 1. */
    private static void edgesOfClues() {
        ForgiveCamp x = new ForgiveCamp();
        camp(x, "boy a at 0 pride 5 soft 0; boy b at 0 pride 30 soft 0; boy c at 0 pride 30; quarrel a b grudge 0; quarrel c a grudge 1;");
        x.tray(0, 0, 4);
        x.write(0, 0, 0);
        int[][] edges = {{3, 1, 1}, {31, 29, 29}, {32, 30, 30}};
        for (int[] e : edges) {
            x.write(0, 1, e[0]);
            promise = 47;
            given("fits at an edge", x, x.fits(0, 0, 1), 1);
            promise = 48;
            given("the least at an edge", x, x.fitsAt(0, 0, 1, 0), e[1]);
            given("the greatest at an edge", x, x.fitsAt(0, 0, 1, 1), e[2]);
        }
        x = new ForgiveCamp();
        camp(x, "boy a at 0 pride 5 soft 0; boy b at 0 pride 29 soft 0; boy c at 0 pride 29 soft 0 ears 0; quarrel a b grudge 0;");
        x.tray(0, 0, 2);
        x.write(0, 0, 1);
        x.write(0, 1, 30);
        promise = 47;
        given("29 and 30", x, x.fits(0, 0, 1), 2);
        promise = 49;
        given("two fit, none parts them", x, x.ask(0, 0, 1), 0);
        x.boot(2, 0, 0);
        given("the other one as soon, none parts them", x, x.ask(0, 0, 1), 0);
        x.teach(2, 1, 30);
        given("the first and the third part them", x, x.ask(0, 0, 1), 0);
        promise = 47;
        given("29 and 30 still", x, x.fits(0, 0, 1), 2);
    }

    private static void clueRefused(ForgiveCamp x, int boy, int tray, int n, int status) {
        promise = 47;
        refused("fits", x, x.fits(boy, tray, n), status);
        promise = 48;
        refused("fitsAt", x, x.fitsAt(boy, tray, n, 0), status);
        promise = 49;
        refused("ask", x, x.ask(boy, tray, n), status);
    }

    private static void wars() {
        ForgiveCamp x = four();
        promise = 50;
        given("rests to 0", x, x.rests(0, 0), 1);
        given("rests to 2", x, x.rests(0, 2), 2);
        x.boot(0, 3, 0);
        x.boot(0, 3, 1);
        given("no GRUDGE", x, x.rests(2, 20), 1 + 2 * 20);
        given("GRUDGE 1 to 1", x, x.rests(3, 1), 2);
        refused("rests to -1", x, x.rests(0, -1), 1);
        refused("rests to 21", x, x.rests(0, 21), 1);
        refused("no such", x, x.rests(4, 0), 1);
        refused("no such", x, x.rests(-1, 0), 1);
        promise = 51;
        int[][] two = {{0, 2}, {2, 0}};
        for (int k = 0; k < 2; k++) for (int w = 0; w < 2; w++) given("restAt", x, x.restAt(0, 2, k, w), two[k][w]);
        int[][] none = {{0, 0}, {0, 1}, {1, 0}};
        for (int k = 0; k < 3; k++) for (int w = 0; w < 2; w++) given("restAt of 0", x, x.restAt(2, 1, k, w), none[k][w]);
        refused("no such", x, x.restAt(0, 2, 2, 0), 6);
        refused("k -1", x, x.restAt(0, 2, -1, 0), 1);
        refused("what 2", x, x.restAt(0, 2, 0, 2), 1);
        refused("what -1", x, x.restAt(0, 2, 0, -1), 1);
        refused("n 21", x, x.restAt(0, 21, 0, 0), 1);
        refused("quarrel 4", x, x.restAt(4, 2, 0, 0), 1);
    }

    private static void gamesAndOdds() {
        ForgiveCamp x = four();
        promise = 52;
        int[] game = {8, 4, 13, 0};
        for (int t = 0; t < 4; t++) given("game", x, x.game(t), game[t]);
        refused("game(-1)", x, x.game(-1), 1);
        refused("game(4)", x, x.game(4), 1);
        promise = 53;
        for (int t = 1; t < 4; t++) given("moveOf", x, x.moveOf(t), 0);
        refused("moveOf(0)", x, x.moveOf(0), 1);
        refused("moveOf(4)", x, x.moveOf(4), 1);
        due("nothing is ended", x.told(7), 3);
        due("nothing has grown", x.told(8), 6);
        ForgiveCamp two = new ForgiveCamp();
        camp(two, "boy a at 0 pride 1; boy b at 0 pride 1; boy c at 11 pride 30; boy d at 11 pride 30;"
            + " quarrel a b grudge 1; quarrel c d grudge 95;");
        given("the later one", two, two.moveOf(1), 1);
        promise = 52;
        given("game(1)", two, two.game(1), 3);
        promise = 53;
        two.forgive(2);
        given("the only one", two, two.moveOf(1), 0);
        two.forgive(0);
        refused("nothing", two, two.moveOf(3), 6);
        camp(two, "boy a at 0 pride 9;boy b at 0 pride 9;boy c at 11 pride 9;boy d at 11 pride 9;"
            + "quarrel a b grudge 9; quarrel c d grudge 9;");
        given("nothing is as good, but comes last", two, two.moveOf(1), 0);
        promise = 52;
        camp(two, "boy a at 0 pride 30;boy b at 0 pride 30;boy c at 11 pride 30;boy d at 11 pride 30;"
            + "quarrel a b grudge 95; quarrel c d grudge 95;");
        given("99 at most", two, two.game(2), 130);

        promise = 54;
        fraction("night(0)", x, x.night(0), 1, 16);
        fraction("night(1)", x, x.night(1), 7, 16);
        fraction("night(2)", x, x.night(2), 1, 1);
        fraction("night(10)", x, x.night(10), 1, 1);
        refused("night(-1)", x, x.night(-1), 1);
        refused("night(11)", x, x.night(11), 1);
        promise = 55;
        fraction("wakes(0)", x, x.wakes(0), 1, 4);
        fraction("wakes(1)", x, x.wakes(1), 1, 16);
        fraction("wakes(3)", x, x.wakes(3), 1, 1);
        refused("wakes(4)", x, x.wakes(4), 1);
        refused("wakes(-1)", x, x.wakes(-1), 1);
        for (int i = 2; i < 10; i++) x.boot(0, 3, 1);
        x.rule(3);
        fraction("wakes(0) of nine", x, x.wakes(0), 19683, 68719476736L);
        promise = 54;
        fraction("night(0) of ten", x, x.night(0), 59049, 1099511627776L);
        fraction("night(9) of ten", x, x.night(9), 1099511627776L - 137858491849L, 1099511627776L);
        x.rule(16);
        fraction("night(0) by 16", x, x.night(0), 1, 1);
    }

    private static void copiedYields() {
        promise = 56;
        ForgiveCamp x = four();
        x.tray(0, 0, 4);
        x.tray(1, 0, 3);
        x.minute(8);
        x.boot(0, 3, 5);
        x.forgive(3);
        given("copyYields", x, x.copyYields(0), 4);
        int[] yields = {0, 2, 0, 1};
        for (int b = 0; b < 4; b++) due("YIELDED", x.read(0, b), yields[b]);
        refused("too few", x, x.copyYields(1), 3);
        refused("MISSING", x, x.copyYields(2), 2);
        refused("no such", x, x.copyYields(4), 1);
        refused("no such", x, x.copyYields(-1), 1);
        weeks(x, "loop 99; quarrel al ben 0; yield al; dawn; end;");
        x.live(0);
        x.live(0);
        x.copyYields(0);
        due("cut to its sort", x.read(0, 0), (byte) (100 + 100 - 2));
    }

    private static void lives() {
        promise = 57;
        ForgiveCamp x = four();
        refused("no WEEKS", x, x.live(0), 6);
        refused("seed -1", x, x.live(-1), 1);
        refused("seed 10,000", x, x.live(10000), 1);
        weeks(x, "any;");
        refused("seed 10,000", x, x.live(10000), 1);
        given("live(0)", x, x.live(0), 1);
        due("one", x.quarrel(2, 0), 2);
        due("another one", x.quarrel(2, 1), 3);
        due("its GRUDGE", x.quarrel(2, 2), 8);
        due("it is OPEN", x.quarrel(2, 3), 0);
        given("live(9999)", x, x.live(9999), 1);
        weeks(x, "minute 6; when up cy; pitch cy 0; end; when up al; pitch cy 1; end;");
        x.camp(0);
        camp(x, FOUR);
        weeks(x, "minute 6; when up cy; pitch cy 0; end; when up al; pitch cy 1; end;");
        given("what it comes to stays", x, x.live(0), 4);
        due("CELL", x.boy(2, 0), 0);
        due("MINUTE", x.told(5), 6);
        given("no STEPS", x, weeks(x, ""), 0);
        given("WEEKS of no STEPS", x, x.live(5), 0);

        promise = 58;
        lives("loop 3; minute 2; end; stop; any;", 0, 5, 0, 6, 1, 0, 0);
        lives("loop 99; loop 99; loop 99; end; end; end;", 0, 300, 0, 0, 0, 0, 1);
        lives("loop 99; minute 1; minute 1; minute 1; end; dawn;", 0, 299, 0, 297, 2, 0, 0);
        lives("loop 99; minute 1; minute 1; minute 1; end; dawn; stop;", 0, 300, 0, 297, 2, 0, 0);
        lives("loop 99; minute 1; minute 1; minute 1; end; dawn; dawn; dawn;", 0, 300, 1, 297, 2, 0, 1);
        lives("loop 99; minute 1; minute 1; minute 1; end; dawn; loop 9; end;", 0, 300, 0, 297, 2, 0, 0);
        lives("loop 99; minute 1; minute 1; minute 1; end; dawn; when up al; any; end;", 0, 300, 0, 297, 2, 0, 1);
        lives("loop 99; minute 1; minute 1; minute 1; end; dawn; when open > 0; any; end;", 0, 300, 0, 297, 2, 0, 0);
        lives("yield dan; yield ben; dawn; dawn; pitch al 0; pitch al 1; quarrel al al 3; quarrel al dan 3;", 0, 8, 4, 0, 0, 1, 0);
        lives("loop 9; quarrel al dan 3; end;", 0, 10, 1, 0, 0, 8, 0);
        lives("yield ben; loop 9; quarrel al dan 3; end; dawn; quarrel al dan 3;", 0, 13, 1, 0, 0, 9, 0);
        lives("when open = 2; when open < 3; when open > 1; any; end; end; end; when now = 0; minute 1; end;", 0, 6, 0, 1, 0, 1, 0);
        lives("when open = 1; dawn; end; when open < 2; dawn; end; when open > 2; dawn; end; when now > 0; dawn; end;", 0, 4, 0, 0, 0, 0, 0);
        lives("dawn; minute 1; dawn; dawn;", 0, 4, 2, 1, 0, 0, 0);
        lives("yield al; yield al; dawn; minute 1; dawn;", 0, 5, 1, 1, 0, 0, 0);
        lives("loop 99; minute 60; minute 40; end; minute 60; minute 40; minute 39; minute 1;", 0, 203, 2, 9999, 2, 0, 0);
        lives("loop 99; minute 60; minute 60; end;", 0, 199, 32, 9960, 2, 0, 0);
        x = four();
        refused("none was", x, x.lived(0), 6);
        refused("lived(-1)", x, x.lived(-1), 1);
        refused("lived(5)", x, x.lived(5), 1);
        weeks(x, "minute 9;");
        x.mark();
        x.live(0);
        x.undo();
        x.camp(0);
        x.live(0);
        given("whatever came behind it", x, x.lived(1), 9);
        x.mean(0, 1);
        weeks(x, "any;");
        x.live(0);
        given("any without BOYS is MISSED", x, x.lived(0), 1);
        given("and no MINUTES", x, x.lived(1), 0);
    }

    private static void means() {
        promise = 59;
        ForgiveCamp x = four();
        refused("no WEEKS", x, x.mean(0, 1), 6);
        weeks(x, "any; minute 5; yield al;");
        refused("seed -1", x, x.mean(-1, 1), 1);
        refused("seed 10,000", x, x.mean(10000, 1), 1);
        refused("none", x, x.mean(0, 0), 1);
        refused("21", x, x.mean(0, 21), 1);
        refused("the last above 9,999", x, x.mean(9999, 2), 1);
        refused("lived is none", x, x.lived(0), 6);
        fraction("mean", x, x.mean(0, 1), 2, 1);
        given("all stays", x, x.told(1), 2);
        given("all stays", x, x.told(5), 0);
        refused("lived is none still", x, x.lived(0), 6);
        int open = 0;
        for (int seed = 9990; seed <= 9999; seed++) {
            x.mark();
            x.live(seed);
            open += Integer.bitCount(x.told(7));
            x.undo();
        }
        given("mean of ten", x, x.mean(9990, 10) ? 1 : 0, 1);
        due("ten lives are as many", x.top() * 10, open * x.bottom());
        camp(x, FOUR);
        weeks(x, "yield ben;");
        fraction("mean of nothing OPEN", x, x.mean(0, 20), 0, 1);
    }

    private static void marks() {
        promise = 60;
        ForgiveCamp x = four();
        weeks(x, "minute 9;");
        given("mark", x, x.mark(), 1);
        x.minute(6);
        x.rule(16);
        given("mark", x, x.mark(), 2);
        x.come(0, 1);
        given("mark", x, x.mark(), 3);
        refused("a fourth", x, x.mark(), 4);
        camp(x, "field 1 by 1;");
        x.tray(0, 0, 1);
        promise = 61;
        given("undo", x, x.undo(), 2);
        due("BOYS", x.told(0), 5);
        due("WIDE", x.told(2), 4);
        given("its WEEKS", x, x.live(0), 1);
        given("undo", x, x.undo(), 1);
        due("BOYS", x.told(0), 4);
        due("MINUTE", x.told(5), 6);
        due("ODDS", x.told(4), 16);
        due("who YIELDED", x.quarrel(1, 3), 1);
        given("undo", x, x.undo(), 0);
        due("OPEN", x.told(7), 3);
        due("YIELDED", x.boy(1, 6), 0);
        due("ODDS", x.told(4), 4);
        refused("none such", x, x.undo(), 6);
        given("TRAYS stay", x, x.read(0, 0), 0);
        given("NAMES are back", x, weeks(x, "yield ben;"), 1);
        x.mark();
        weeks(x, "any; any;");
        x.undo();
        given("the WEEKS as they were", x, x.live(0), 1);
        x.camp(0);
        x.mark();
        weeks(x, "any;");
        x.undo();
        refused("no WEEKS, as it was", x, x.live(0), 6);
    }

    public static void main(String[] args) {
        newObjectAndStatus();
        trays();
        pouring();
        feeding();
        camps();
        campFaults();
        weeksTexts();
        faultsAndTold();
        boysAndQuarrels();
        minutesAndDawns();
        whatIsDone();
        whatElseIsDone();
        whoHearsWhom();
        mornings();
        whatToDo();
        circlesAndSides();
        whatWasSeen();
        wars();
        gamesAndOdds();
        copiedYields();
        lives();
        means();
        marks();
        if (wrong > 0) System.exit(1);
        System.out.println("PromiseTests: all is as due");
    }
}
