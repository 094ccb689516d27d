/** Each FAULT of a CAMP and of WEEKS at its place, and the texts next to it that are taken. */
public final class FaultTests {
    private static final String RESERVED = "field by odds boy at pride soft ears quarrel grudge minute dawn yield pitch any"
        + " when up open now loop end stop";
    private static final String TWO = "boy al at 0 pride 1;boy ben at 3 pride 1;";

    private static void campFault(String text, int fault, int place) {
        ForgiveCamp x = Bench.of("odds 9; boy z at 5 pride 2;");
        Bench.refused(text, x, Bench.camp(x, text), 9);
        Bench.due(text + " fault(0)", x.fault(0), fault);
        Bench.due(text + " fault(1)", x.fault(1), place);
        Bench.due(text + ": the old one stays", x.told(4) * 10 + x.told(0), 91);
    }

    /** The FAULT where a sign ^ stands in the text, which is left out. */
    private static void campFault(String marked, int fault) {
        int place = marked.indexOf('^');
        campFault(marked.substring(0, place) + marked.substring(place + 1), fault, place);
    }

    private static void campTaken(String text, int boys) {
        ForgiveCamp x = Bench.of("odds 9;");
        Bench.given(text, x, Bench.camp(x, text), boys);
        Bench.due(text + " fault(0)", x.fault(0), 0);
        Bench.due(text + " fault(1)", x.fault(1), ForgiveCamp.NONE);
    }

    private static void weeksFault(String marked, int fault) {
        int place = marked.indexOf('^');
        String text = marked.substring(0, place) + marked.substring(place + 1);
        ForgiveCamp x = Bench.of(TWO);
        Bench.weeks(x, "dawn;");
        Bench.refused(text, x, Bench.weeks(x, text), 9);
        Bench.due(text + " fault(0)", x.fault(0), fault);
        Bench.due(text + " fault(1)", x.fault(1), place);
        Bench.given(text + ": the old ones stay", x, x.live(0), 1);
    }

    private static void weeksTaken(String text, int steps) {
        ForgiveCamp x = Bench.of(TWO);
        Bench.given(text, x, Bench.weeks(x, text), steps);
        Bench.due(text + " fault(0)", x.fault(0), 0);
        Bench.due(text + " fault(1)", x.fault(1), ForgiveCamp.NONE);
    }

    private static void tokens() {
        Bench.sentence("TOKENS, between them blanks (10, 32): WORDS (small letters), NUMBERS, SIGNS ; < > =");
        for (int c = 0; c < 256; c++) {
            String s = String.valueOf((char) c);
            boolean token = c >= 'a' && c <= 'z' || c >= '0' && c <= '9' || ";<>=".indexOf(c) >= 0;
            if (c == 10 || c == 32) {
                campTaken(s, 0);
                campTaken("odds" + s + "3;", 0);
                weeksTaken(s, 0);
                weeksTaken("minute" + s + "3;", 1);
            } else {
                campFault("^" + s, token ? 2 : 1);
                campFault(" odds 3;\n^" + s + " odds 3;", token ? 2 : 1);
                weeksFault("^" + s, token ? 2 : 1);
                weeksFault("dawn;^" + s, token ? 2 : 1);
                if (c == ';') weeksTaken("dawn ;", 1);
                else weeksFault("dawn ^" + s, token ? 2 : 1);
            }
        }

        Bench.sentence("blanks: any number of them, or none");
        campTaken("\n\n  odds  \n 3 \n;\n", 0);
        campTaken("field6by6;odds16;boy a at35pride30soft9ears9;boy b at0pride1soft0ears0;quarrel a b grudge99;quarrel b a grudge0;", 2);
        campFault("^oddsodds 3;", 2);
        campFault("boy a ^atpride 3;", 2);
        weeksTaken("minute3;dawn;quarrel al ben3;when open>3;end;loop9;end;stop;", 6);

        Bench.sentence("NUMBERS (1 to 4 digits), as long as they go; a NUMBER of 5 digits and more: 1, at its first");
        campTaken("odds 0;", 0);
        campTaken("odds 00;", 0);
        campTaken("odds 016;", 0);
        campTaken("odds 0016;", 0);
        campFault("odds ^00016;", 1);
        campFault("odds ^10000;", 1);
        campFault("odds ^65540;", 1);
        campFault("odds ^4294967300;", 1);
        campFault("odds ^18446744073709551620;", 1);
        campFault("odds ^9999;", 4);
        campFault("odds 1 ^6;", 2);
        weeksTaken("when now = 9999; end;", 1);
        weeksFault("when now = ^10000; end;", 1);
        weeksFault("when now = ^00000; end;", 1);

        Bench.sentence("CAMP: {PART} and WEEKS: {STEP}: any number of times");
        campTaken("", 0);
        weeksTaken("", 0);
        campTaken("odds 3; boy a at 0 pride 1; boy b at 0 pride 1; quarrel a b grudge 1; boy c at 0 pride 1; quarrel c a grudge 1;", 3);
        campTaken("boy a at 0 pride 1; odds 3;", 1);
    }

    private static void names() {
        Bench.sentence("NAME: a WORD of 1 to 8 letters");
        campTaken("boy a at 0 pride 1; boy abcdefgh at 0 pride 1; boy zzzzzzzz at 0 pride 1; quarrel abcdefgh zzzzzzzz grudge 1;", 3);
        weeksTaken("yield al;", 1);
        Bench.sentence("2: a WORD of 9 letters and more where a NAME must stand");
        campFault("boy ^abcdefghi at 0 pride 1;", 2);
        campFault("boy ^abcdefghijklmnopqrstuvwxyzabcdefghijklm at 0 pride 1;", 2);
        campFault("boy abcdefgh at 0 pride 1; quarrel ^abcdefghi abcdefgh grudge 1;", 2);
        campFault("boy abcdefgh at 0 pride 1; boy b at 0 pride 1; quarrel b ^abcdefghi grudge 1;", 2);
        weeksFault("yield ^abcdefghi;", 2);
        weeksFault("pitch ^abcdefghi 1;", 2);
        weeksFault("quarrel al ^abcdefghi 1;", 2);
        weeksFault("when up ^abcdefghi; end;", 2);

        Bench.sentence("NAME: .. that is none of field, by, odds, .. end, stop");
        for (String word : RESERVED.split(" ")) {
            campFault("boy ^" + word + " at 0 pride 1;", 2);
            campFault(TWO + "quarrel ^" + word + " al grudge 1;", 2);
            campFault(TWO + "quarrel al ^" + word + " grudge 1;", 2);
            weeksFault("yield ^" + word + ";", 2);
            weeksFault("pitch ^" + word + " 1;", 2);
            weeksFault("quarrel ^" + word + " al 1;", 2);
            weeksFault("quarrel al ^" + word + " 1;", 2);
            weeksFault("when up ^" + word + "; end;", 2);
            // One letter more or less makes a NAME, but for those that are reserved themselves.
            campTaken("boy x" + word.substring(1) + " at 0 pride 1;", 1);
            if (word.length() < 8) campTaken("boy " + word + "x at 0 pride 1;", 1);
        }

        Bench.sentence("No two BOYS have one NAME; 3: a new NAME that is taken");
        campFault("boy a at 0 pride 1; boy ^a at 0 pride 1;", 3);
        campFault("boy abcdefgh at 0 pride 1; boy b at 0 pride 1; boy ^abcdefgh at 99 pride 1;", 3);
        campTaken("boy ab at 0 pride 1; boy ba at 0 pride 1; boy a at 0 pride 1; boy aa at 0 pride 1; boy abcdefgh at 0 pride 1; boy bcdefgh at 0 pride 1; boy abcdefg at 0 pride 1;", 7);

        Bench.sentence("what a PART names must be told ahead; 3: a NAME that is no BOY told ahead");
        campFault("quarrel ^a b grudge 1; boy a at 0 pride 1; boy b at 0 pride 1;", 3);
        campFault("boy a at 0 pride 1; quarrel a ^b grudge 1; boy b at 0 pride 1;", 3);
        campFault("boy a at 0 pride 1; quarrel ^b a grudge 1; boy b at 0 pride 1;", 3);
        Bench.sentence("WEEKS: 3: a NAME that is no BOY");
        weeksFault("yield ^eve;", 3);
        weeksFault("pitch ^eve 0;", 3);
        weeksFault("quarrel ^eve al 3;", 3);
        weeksFault("quarrel al ^eve 3;", 3);
        weeksFault("when up ^eve; end;", 3);
        weeksFault("yield ^a;", 3);
        weeksFault("yield ^all;", 3);
        Bench.sentence("one who came has no NAME");
        ForgiveCamp x = Bench.of(TWO);
        x.come(0, 1);
        Bench.refused("yield c;", x, Bench.weeks(x, "yield c;"), 9);
        Bench.due("fault(0)", x.fault(0), 3);
        Bench.sentence("NAMES of a CAMP that is gone are none");
        x.camp(0);
        Bench.refused("yield al;", x, Bench.weeks(x, "yield al;"), 9);
        Bench.due("fault(0)", x.fault(0), 3);
    }

    private static void cannotStand() {
        Bench.sentence("2: it can't stand there");
        String[] parts = {"field 4 by 3 ;", "odds 4 ;", "boy a at 0 pride 1 soft 1 ears 1 ;", "boy a at 0 pride 1 ears 1 ;", "boy a at 0 pride 1 ;"};
        for (String part : parts) cutAndSpoiled("", part);
        cutAndSpoiled("boy a at 0 pride 1 ; boy b at 0 pride 1 ; ", "quarrel a b grudge 1 ;");
        campFault("boy a at 0 pride 1 ears 1 ^soft 1;", 2);
        campFault("boy a at 0 pride 1 soft 1 ^soft 1;", 2);
        campFault("boy a at 0 ^soft 1 pride 1;", 2);
        campFault("odds 3;^;", 2);
        campFault("^minute 3;", 2);
        campFault("^a", 2);
        campFault("field 4 ^4;", 2);
        campFault("odds ^< 3;", 2);

        Bench.sentence("2: the end: the text's length");
        campFault("odds^", 2);
        campFault("odds 3^", 2);
        campFault("odds 3 \n  ^", 2);
        campFault("boy a at 0 pride 1 soft^", 2);
        campFault("boy^", 2);
        weeksFault("minute^", 2);
        weeksFault("minute 3  ^", 2);
        weeksFault("when^", 2);
        weeksFault("when open^", 2);
        weeksFault("when open <^", 2);
        weeksFault("quarrel al^", 2);
        ForgiveCamp x = new ForgiveCamp();
        Bench.feed(x, "odds 3;odds");
        Bench.refused("the first six bytes", x, x.camp(6), 9);
        Bench.due("fault(0)", x.fault(0), 2);
        Bench.due("fault(1)", x.fault(1), 6);

        Bench.sentence("WEEKS: an end without a beginning: 2");
        weeksFault("^end;", 2);
        weeksFault("dawn; ^end;", 2);
        weeksFault("loop 2; end; ^end;", 2);
        Bench.sentence("WEEKS: the text's end ahead of an end: 2");
        weeksFault("loop 2;^", 2);
        weeksFault("loop 2; dawn; \n^", 2);
        weeksFault("loop 2; when up al; end;^", 2);
        weeksFault("loop 2; end^", 2);

        Bench.sentence("WEEKS: 2: it can't stand there");
        for (String word : "field by odds boy at pride soft ears grudge up open now al".split(" ")) weeksFault("dawn;^" + word + ";", 2);
        weeksFault("minute ^al;", 2);
        weeksFault("minute ^;", 2);
        weeksFault("minute 3 ^4;", 2);
        weeksFault("dawn ^3;", 2);
        weeksFault("any ^al;", 2);
        weeksFault("stop ^stop;", 2);
        weeksFault("quarrel al ben ^grudge 3;", 2);
        weeksFault("quarrel al ^3;", 2);
        weeksFault("quarrel ^3;", 2);
        weeksFault("pitch al ^ben;", 2);
        weeksFault("pitch ^3;", 2);
        weeksFault("yield ^3;", 2);
        weeksFault("loop ^; end;", 2);
        weeksFault("loop 2; end ^2;", 2);
        weeksFault("when ^al; end;", 2);
        weeksFault("when ^3; end;", 2);
        weeksFault("when ^; end;", 2);
        weeksFault("when up ^; end;", 2);
        weeksFault("when ^dawn; end;", 2);
        weeksFault("when open ^3; end;", 2);
        weeksFault("when open ^; 3; end;", 2);
        weeksFault("when open ^al; end;", 2);
        weeksFault("when open <^= 3; end;", 2);
        weeksFault("when now < ^al; end;", 2);
        weeksFault("when up ^< 3; end;", 2);
        weeksFault("when up al ^< 3; end;", 2);
        weeksFault("when open > 3 ^dawn; end;", 2);
    }

    private static void firstTexts() {
        Bench.sentence("2: it can't stand there, in the first text of an object, too");
        for (String text : new String[] {"when open ^3 3; end;", "when now ^al 3; end;", "when open ^"}) {
            ForgiveCamp x = new ForgiveCamp();
            int place = text.indexOf('^');
            Bench.refused(text, x, Bench.weeks(x, text.replace("^", "")), 9);
            Bench.due(text + " fault(0)", x.fault(0), 2);
            Bench.due(text + " fault(1)", x.fault(1), place);
        }
        ForgiveCamp x = new ForgiveCamp();
        Bench.given("and what can", x, Bench.weeks(x, "when open = 0; any; end;"), 2);
    }

    /** Each TOKEN of a PART in turn is missing, is a sign that is none, is a WORD that can't stand there. */
    private static void cutAndSpoiled(String ahead, String part) {
        campTaken(ahead + part, ahead.isEmpty() ? (part.startsWith("boy") ? 1 : 0) : 2);
        String[] tokens = part.split(" ");
        StringBuilder t = new StringBuilder(ahead);
        for (int i = 0; i < tokens.length; i++) {
            if (i > 0) {
                campFault(t.toString(), 2, t.length());
                campFault(t + "^> ;", 2);
                campFault(t + "^12345 ;", 1);
                campFault(t + "^stop ;", 2);
            }
            campFault(t + "^? ;", 1);
            t.append(tokens[i]).append(' ');
        }
    }

    private static void numbers() {
        Bench.sentence("4: a NUMBER that can't be");
        campFault("field ^0 by 3;", 4);
        campFault("field ^7 by 3;", 4);
        campFault("field 4 by ^0;", 4);
        campFault("field 4 by ^7;", 4);
        campTaken("field 1 by 1;", 0);
        campTaken("field 6 by 6;", 0);
        campFault("odds ^17;", 4);
        campTaken("odds 0;", 0);
        campTaken("odds 16;", 0);
        campFault("boy a at 0 pride ^0;", 4);
        campFault("boy a at 0 pride ^31;", 4);
        campTaken("boy a at 0 pride 1;", 1);
        campTaken("boy a at 0 pride 30;", 1);
        campFault("boy a at 0 pride 1 soft ^10;", 4);
        campFault("boy a at 0 pride 1 ears ^10;", 4);
        campFault("boy a at 0 pride 1 soft 9 ears ^10;", 4);
        campTaken("boy a at 0 pride 1 soft 0 ears 0;", 1);
        campTaken("boy a at 0 pride 1 soft 9 ears 9;", 1);
        campFault(TWO + "quarrel al ben grudge ^100;", 4);
        campTaken(TWO + "quarrel al ben grudge 99;", 2);
        campTaken(TWO + "quarrel al ben grudge 0;", 2);
        Bench.sentence("4: no such CELL, too");
        campFault("boy a at ^12 pride 1;", 4);
        campTaken("boy a at 11 pride 1;", 1);
        campFault("field 2 by 3; boy a at ^6 pride 1;", 4);
        campTaken("field 2 by 3; boy a at 5 pride 1;", 1);
        campFault("field 6 by 6; boy a at ^36 pride 1;", 4);
        campTaken("field 6 by 6; boy a at 35 pride 1;", 1);
        campFault("field 1 by 1; boy a at ^1 pride 1;", 4);
        Bench.sentence("WEEKS: 4: minute (1 to 60)");
        weeksFault("minute ^0;", 4);
        weeksFault("minute ^61;", 4);
        weeksTaken("minute 1; minute 60;", 2);
        Bench.sentence("WEEKS: 4: a GRUDGE (0 to 99)");
        weeksFault("quarrel al ben ^100;", 4);
        weeksTaken("quarrel al ben 0; quarrel al ben 99;", 2);
        Bench.sentence("WEEKS: 4: open (0 to 10)");
        weeksFault("when open = ^11; end;", 4);
        weeksTaken("when open = 0; end; when open = 10; end;", 2);
        Bench.sentence("WEEKS: 4: now (0 to 9,999)");
        weeksTaken("when now = 0; end; when now = 9999; end;", 2);
        Bench.sentence("WEEKS: 4: loop n (1 to 99)");
        weeksFault("loop ^0; end;", 4);
        weeksFault("loop ^100; end;", 4);
        weeksTaken("loop 1; end; loop 99; end;", 2);
        Bench.sentence("WEEKS: 4: no such CELL, too");
        weeksFault("pitch al ^12;", 4);
        weeksTaken("pitch al 0; pitch al 11;", 2);
        Bench.sentence("WEEKS: a quarrel of one with himself is no FAULT");
        weeksTaken("quarrel al al 3;", 1);
    }

    private static void toldAlready() {
        Bench.sentence("5: field, odds told already (at that WORD)");
        campFault("odds 1; ^odds 1;", 5);
        campFault("odds 1; boy a at 0 pride 1; ^odds", 5);
        campFault("field 4 by 3; ^field 4 by 3;", 5);
        campFault("field 4 by 3; odds 4; ^field", 5);
        Bench.sentence("5: field behind a boy (at that WORD)");
        campFault("boy a at 0 pride 1; ^field 4 by 3;", 5);
        campFault("field 4 by 3; boy a at 0 pride 1; ^field 4 by 3;", 5);
        Bench.sentence("5: a quarrel of a BOY with himself (at the second NAME)");
        campFault(TWO + "quarrel al ^al grudge 1;", 5);
        campFault(TWO + "quarrel ben ^ben", 5);
    }

    private static void oneMore() {
        StringBuilder eight = new StringBuilder();
        for (char c = 'a'; c < 'i'; c++) eight.append("boy ").append(c).append(" at 0 pride 1;");
        Bench.sentence("6: a ninth boy (at that WORD)");
        campTaken(eight.toString(), 8);
        campFault(eight + " ^boy i at 0 pride 1;", 6);
        campFault(eight + " ^boy", 6);
        campFault(eight + " ^boy a at 0 pride 1;", 6);
        Bench.sentence("6: an 11th quarrel (at that WORD)");
        String ten = TWO + "quarrel al ben grudge 0;".repeat(10);
        campTaken(ten, 2);
        campFault(ten + " ^quarrel al ben grudge 0;", 6);
        campFault(ten + " ^quarrel", 6);
        campFault(ten + " ^quarrel al al grudge 0;", 6);
        Bench.sentence("the greatest CAMP");
        campTaken("field 6 by 6; odds 16;" + eight + "quarrel a b grudge 99;".repeat(10), 8);
        Bench.sentence("6: a 31st STEP (at its WORD; end is none)");
        weeksTaken("any;".repeat(30), 30);
        weeksTaken("loop 9;end;".repeat(27), 27);
        weeksTaken("dawn;".repeat(15) + "loop 9;end;".repeat(15), 30);
        for (String step : "minute 1,dawn,quarrel al ben 1,yield al,pitch al 1,any,when up al,loop 2,stop".split(",")) {
            weeksFault("any;".repeat(30) + "\n^" + step + ";", 6);
        }
        weeksFault("any;".repeat(30) + "^end;", 2);
        weeksTaken("loop 1;" + "any;".repeat(29) + "end;", 30);
        weeksFault("loop 1;" + "any;".repeat(29) + "^any;end;", 6);
        Bench.sentence("7: a when, loop within three others (at its WORD)");
        weeksTaken("loop 1; when up al; loop 1; any; end; loop 1; end; end; when up al; end; end; loop 1; end;", 7);
        weeksFault("loop 1; when up al; loop 1; ^loop 1; end; end; end; end;", 7);
        weeksFault("when up al; loop 1; when up al; any; ^when up al;", 7);
        weeksFault("loop 1; loop 1; loop 1; ^when", 7);
        weeksFault("loop 1; loop 1; loop 1; end; loop 1; ^loop 1;", 7);
    }

    private static void theFirst() {
        Bench.sentence("FAULTS, the first along the text");
        campFault("odds ^17; ?", 4);
        campFault("odds ^17; odds 3;", 4);
        campFault("boy a at 0 pride ^0 ?", 4);
        campFault("odds ^? 17;", 1);
        campFault("boy a at ^12 pride 31;", 4);
        campFault("boy a at 0 pride 1; quarrel ^b b", 3);
        campFault("boy a at 0 pride 1; boy ^a at 12", 3);
        weeksFault("minute ^0; ?", 4);
        weeksFault("yield ^eve; end;", 3);
        weeksFault("^end; ?", 2);
        weeksFault("loop ^0; end; end;", 4);
        Bench.sentence("of one TOKEN the least kind");
        campFault("boy ^12345 at 0 pride 1;", 1);
        campFault("odds 3 ^12345", 1);
        campFault("^12345", 1);
        campFault("boy ^soft at", 2);
        weeksFault("any;".repeat(27) + "loop 1;loop 1;loop 1;^loop 1;", 6);
        weeksFault("any;".repeat(27) + "loop 1;loop 1;loop 1;^when", 6);
        weeksFault("any;".repeat(26) + "loop 1;loop 1;loop 1;^loop 1;", 7);
        weeksFault("loop 1;loop 1;loop 1;^loops", 2);
        weeksFault("any;".repeat(30) + "^anys", 2);
        weeksFault("any;".repeat(30) + "^?", 1);
    }

    private static void tape() {
        Bench.sentence("a CAMP: at most 900 bytes; feed: NONE if there would be more than 900");
        ForgiveCamp x = new ForgiveCamp();
        String last = "boy a at 0 pride 1;";
        Bench.due("fed", Bench.feed(x, " ".repeat(900 - last.length()) + last), 900);
        Bench.due("twenty more", x.feed(0, 0, 0, 0, 0), ForgiveCamp.NONE);
        Bench.due("STATUS as it was", x.status(), 0);
        Bench.refused("901", x, x.camp(901), 1);
        Bench.given("900", x, x.camp(900), 1);
        Bench.feed(x, " ".repeat(900 - last.length()) + last);
        Bench.refused("899", x, x.camp(899), 9);
        Bench.due("its place", x.fault(1), 899);
        for (int i = 1; i <= 44; i++) Bench.due("feed", x.feed(0, 0, 0, 0, 0), 20 * i);
        Bench.due("to 900", x.feed(0, 0, 0, 0, 0), 900);
        Bench.due("no more", x.feed(0, 0, 0, 0, 0), ForgiveCamp.NONE);

        Bench.sentence("feed: the highest byte of each int first");
        x = new ForgiveCamp();
        x.feed('o' << 24 | 'd' << 16 | 'd' << 8 | 's', ' ' << 24 | '1' << 16 | '5' << 8 | ';', '\n' << 24 | 'b' << 16 | 'o' << 8 | 'y',
            ' ' << 24 | 'a' << 16 | ' ' << 8 | 'a', 't' << 24 | ' ' << 16 | '7' << 8 | ' ');
        x.feed('p' << 24 | 'r' << 16 | 'i' << 8 | 'd', 'e' << 24 | '3' << 16 | ';' << 8 | 0xff, -1, -1, -1);
        Bench.given("camp", x, x.camp(27), 1);
        Bench.due("ODDS", x.told(4), 15);
        Bench.due("CELL", x.boy(0, 0), 7);

        Bench.sentence("camp: the first n bytes of the tape (which is empty then); 1: n below 0, or more than the tape has, too");
        for (int n : new int[] {1, -1, 901, Integer.MAX_VALUE, Integer.MIN_VALUE}) {
            Bench.refused("of an empty tape", x, x.camp(n), 1);
            Bench.refused("of an empty tape", x, x.weeks(n), 1);
        }
        Bench.feed(x, "odds 3; odds 4;     ");
        Bench.refused("one more", x, x.camp(21), 1);
        Bench.refused("below 0", x, x.camp(-1), 1);
        Bench.due("the tape stays", x.feed(0, 0, 0, 0, 0), 40);
        Bench.given("the first seven", x, x.camp(7), 0);
        Bench.due("ODDS", x.told(4), 3);
        Bench.due("the tape is empty", x.feed(0, 0, 0, 0, 0), 20);
        Bench.refused("what stood there", x, x.camp(1), 9);
        Bench.due("the tape is empty behind a FAULT", x.feed(0, 0, 0, 0, 0), 20);
        Bench.given("none of them", x, x.camp(0), 0);
        Bench.due("the tape is empty behind none", x.feed(0, 0, 0, 0, 0), 20);

        Bench.sentence("WEEKS: at most 300 bytes (1: above 300, too)");
        x = Bench.of(TWO);
        Bench.feed(x, " ".repeat(296) + "any; ");
        Bench.refused("301", x, x.weeks(301), 1);
        Bench.refused("-1", x, x.weeks(-1), 1);
        Bench.refused("more than the tape has", x, x.weeks(321), 1);
        Bench.due("the tape stays", x.feed(0, 0, 0, 0, 0), 340);
        Bench.given("300", x, x.weeks(300), 1);
        Bench.due("the tape is empty", x.feed(0, 0, 0, 0, 0), 20);
        Bench.refused("what stood there", x, x.weeks(1), 9);
        Bench.due("the tape is empty behind a FAULT", x.feed(0, 0, 0, 0, 0), 20);
        Bench.refused("21 of 20", x, x.weeks(21), 1);
        Bench.given("none of them", x, x.weeks(0), 0);
        Bench.due("the tape is empty behind none", x.feed(0, 0, 0, 0, 0), 20);
    }

    private static void anew() {
        Bench.sentence("each text begins anew, whatever FAULT the one ahead of it had");
        ForgiveCamp x = Bench.of(TWO);
        for (String broken : new String[] {"loop 2;", "loop 2; when up al; loop 3; ?", "loop 2; loop 2; loop 2; loop 2;", "any;".repeat(31)}) {
            Bench.refused(broken, x, Bench.weeks(x, broken), 9);
            Bench.given("dawn behind it", x, Bench.weeks(x, "dawn;"), 1);
            Bench.refused(broken, x, Bench.weeks(x, broken), 9);
            Bench.refused("end behind it", x, Bench.weeks(x, "end;"), 9);
            Bench.due("fault(0)", x.fault(0), 2);
            Bench.due("fault(1)", x.fault(1), 0);
            Bench.refused(broken, x, Bench.weeks(x, broken), 9);
            Bench.given("three within one another", x, Bench.weeks(x, "loop 1; loop 1; loop 1; end; end; end;"), 3);
        }
        for (String broken : new String[] {"field 2 by 2; odds 3; ?", TWO + "quarrel al ben grudge 3; boy al"}) {
            Bench.refused(broken, x, Bench.camp(x, broken), 9);
            Bench.given("behind it", x, Bench.camp(x, "odds 5; boy z at 9 pride 1;"), 1);
            Bench.row("told", x, x::told, 1, 0, 4, 3, 5);
            Bench.refused(broken, x, Bench.camp(x, broken), 9);
            Bench.given("behind it", x, Bench.camp(x, "odds 6; field 4 by 4; boy al at 15 pride 1;"), 1);
            Bench.row("told", x, x::told, 1, 0, 4, 4, 6);
        }
    }

    private static void told() {
        Bench.sentence("fault: of the latest camp() or weeks() with STATUS 0 or 9");
        ForgiveCamp x = new ForgiveCamp();
        x.camp(1);
        x.weeks(1);
        Bench.due("ahead of any", x.fault(0), ForgiveCamp.NONE);
        Bench.due("ahead of any", x.fault(1), ForgiveCamp.NONE);
        Bench.camp(x, "odds 17;");
        Bench.row("fault", x, i -> { x.told(0); return x.fault(i); }, 4, 5);
        x.camp(1);
        x.weeks(-1);
        Bench.due("behind STATUS 1", x.fault(0), 4);
        Bench.due("behind STATUS 1", x.fault(1), 5);
        Bench.camp(x, TWO);
        Bench.due("without one", x.fault(0), 0);
        Bench.due("without one", x.fault(1), ForgiveCamp.NONE);
        Bench.weeks(x, "dawn");
        Bench.due("of weeks()", x.fault(0), 2);
        Bench.due("of weeks()", x.fault(1), 4);
        x.mark();
        x.undo();
        Bench.due("it is not taken back", x.fault(0), 2);
        Bench.weeks(x, "dawn;");
        Bench.due("without one", x.fault(0), 0);
        Bench.due("without one", x.fault(1), ForgiveCamp.NONE);
        Bench.camp(x, "?");
        Bench.due("a place 0", x.fault(1), 0);
        Bench.sentence("fault: NONE for others; it has no STATUS");
        x.told(9);
        for (int what : new int[] {-1, 2, Integer.MIN_VALUE, Integer.MAX_VALUE}) Bench.due("fault", x.fault(what), ForgiveCamp.NONE);
        Bench.due("status()", x.status(), 1);
        x.told(0);
        Bench.due("fault", x.fault(5), ForgiveCamp.NONE);
        Bench.due("status()", x.status(), 0);
    }

    public static void main(String[] args) {
        tokens();
        names();
        cannotStand();
        firstTexts();
        numbers();
        toldAlready();
        oneMore();
        theFirst();
        tape();
        anew();
        told();
        Bench.end("FaultTests");
    }
}
