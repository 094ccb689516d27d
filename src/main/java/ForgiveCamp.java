/**
 * A camp of boys who cannot get up till one of each pair forgives.
 * What each call must do is told, promise by promise, in shared/DOC.md; the words in capitals are that page's.
 */
public final class ForgiveCamp {
    public static final int NONE = -1;

    private static final int MOST_BOYS = 8;
    private static final int MOST_QUARRELS = 10;
    private static final int MOST_PRIDE = 30;
    private static final int MOST_GRUDGE = 99;
    private static final int MOST_ODDS = 16;
    private static final int MOST_MINUTES_TOLD = 200;
    private static final int LAST_MINUTE = 9999;
    private static final int LAST_SEED = 9999;
    private static final int MOST_TAPE = 900;
    private static final int MOST_WEEKS = 300;
    private static final int MOST_STEPS = 30;
    /** Each STEP may bring an end of its own. */
    private static final int MOST_LINES = 60;
    private static final int MOST_WITHIN = 3;
    private static final int MOST_LIVED = 300;
    private static final int MOST_MARKS = 3;
    private static final int TRAYS = 4;
    private static final int MOST_PLACES = 60;
    private static final int MOST_TWOS = 20;
    private static final int MOST_TURNS = 3;
    private static final int MOST_WAR = 20;
    /** Far above what any run of WEEKS can need: 300 STEPS with at most 99 rounds of nothing each. */
    private static final int MOST_MOVES = 1000000;
    /** Later than any DUE MINUTE. */
    private static final int NEVER = 1000000;

    private static final int BAD_NUMBER = 1;
    private static final int MISSING = 2;
    private static final int NO_PLACE = 3;
    private static final int TOO_MANY = 4;
    private static final int BAD_ENTRY = 5;
    private static final int NO_SUCH = 6;
    private static final int CANNOT_BE = 7;
    private static final int UNLIKE = 8;
    private static final int FAULTY = 9;

    private static final int NO_TOKEN = 1;
    private static final int CANNOT_STAND = 2;
    private static final int WRONG_NAME = 3;
    private static final int WRONG_NUMBER = 4;
    private static final int TOLD_ALREADY = 5;
    private static final int ONE_MORE = 6;
    private static final int TOO_DEEP = 7;

    /** The words that are no NAMES, in the order of the numbers below. */
    private static final String RESERVED = "field by odds boy at pride soft ears quarrel grudge minute dawn yield pitch any when up open now loop end stop";
    private static final int RESERVED_WORDS = 22;
    private static final int FIELD = 0;
    private static final int BY = 1;
    private static final int ODDS = 2;
    private static final int BOY = 3;
    private static final int AT = 4;
    private static final int PRIDE = 5;
    private static final int SOFT = 6;
    private static final int EARS = 7;
    private static final int QUARREL = 8;
    private static final int GRUDGE = 9;
    private static final int MINUTE = 10;
    private static final int DAWN = 11;
    private static final int YIELD = 12;
    private static final int PITCH = 13;
    private static final int ANY = 14;
    private static final int WHEN = 15;
    private static final int UP = 16;
    private static final int OPEN = 17;
    private static final int NOW = 18;
    private static final int LOOP = 19;
    private static final int END = 20;
    private static final int STOP = 21;

    private final Camp now = new Camp();
    private final Camp trial = new Camp();
    private final Ahead ahead = new Ahead();
    private final Plans plans = new Plans(trial, ahead);
    private final Clues clues = new Clues(trial, ahead);
    private final Games games = new Games(trial, ahead);
    private final Trays trays = new Trays();
    private final Text text = new Text();
    private final CampReader campReader = new CampReader(text);
    private final WeeksReader weeksReader = new WeeksReader(text);
    private final Weeks plan = new Weeks();
    private final Life life = new Life();
    private final int[] latestLife = new int[5];
    private boolean hasLived = false;
    private final Camp[] markedCamps = new Camp[MOST_MARKS];
    private final Weeks[] markedWeeks = new Weeks[MOST_MARKS];
    private int marks = 0;
    private int latestStatus = 0;
    private long fractionTop = 0;
    private long fractionBottom = 1;

    public ForgiveCamp() {
        for (int i = 0; i < MOST_MARKS; i++) {
            markedCamps[i] = new Camp();
            markedWeeks[i] = new Weeks();
        }
    }

    private static boolean within(long number, long least, long most) {
        return number >= least && number <= most;
    }

    private int give(int answer) {
        latestStatus = 0;
        return answer;
    }

    private int refuse(int status) {
        latestStatus = status;
        return NONE;
    }

    private boolean grant() {
        latestStatus = 0;
        return true;
    }

    private boolean deny(int status) {
        latestStatus = status;
        return false;
    }

    private void tellFraction(long top, long bottom) {
        long divisor = Games.commonDivisor(top, bottom);
        if (divisor < 1) {
            return;
        }
        fractionTop = top / divisor;
        fractionBottom = bottom / divisor;
    }

    public int status() {
        return latestStatus;
    }

    public long top() {
        return fractionTop;
    }

    public long bottom() {
        return fractionBottom;
    }

    // ---- TRAYS.

    public boolean tray(int tray, int sort, int many) {
        if (!trays.known(tray) || !within(sort, 0, 3) || !within(many, 0, MOST_PLACES)) {
            return deny(BAD_NUMBER);
        }
        trays.lay(tray, sort, many);
        return grant();
    }

    private int placeStatus(int tray, int place) {
        if (!trays.known(tray)) {
            return BAD_NUMBER;
        }
        if (!trays.laid(tray)) {
            return MISSING;
        }
        return trays.has(tray, place) ? 0 : NO_PLACE;
    }

    public boolean write(int tray, int place, long v) {
        int wrong = placeStatus(tray, place);
        if (wrong != 0) {
            return deny(wrong);
        }
        trays.put(tray, place, v);
        return grant();
    }

    public long read(int tray, int place) {
        int wrong = placeStatus(tray, place);
        if (wrong != 0) {
            return refuse(wrong);
        }
        latestStatus = 0;
        return trays.get(tray, place);
    }

    public boolean pour(int from, int place, int to, int at, int many) {
        if (!trays.known(from) || !trays.known(to) || place < 0 || at < 0 || many < 0) {
            return deny(BAD_NUMBER);
        }
        if (!trays.laid(from) || !trays.laid(to)) {
            return deny(MISSING);
        }
        if (!trays.alike(from, to)) {
            return deny(UNLIKE);
        }
        if (!trays.holds(from, place, many) || !trays.holds(to, at, many)) {
            return deny(NO_PLACE);
        }
        trays.move(from, place, to, at, many);
        return grant();
    }

    // ---- texts.

    public int feed(int a, int b, int c, int d, int e) {
        if (!text.hasRoom()) {
            return NONE;
        }
        text.addFour(a);
        text.addFour(b);
        text.addFour(c);
        text.addFour(d);
        text.addFour(e);
        return text.fed;
    }

    public int camp(int n) {
        if (!within(n, 0, text.fed)) {
            return refuse(BAD_NUMBER);
        }
        boolean taken = campReader.takeIn(n);
        text.fed = 0;
        if (!taken) {
            return refuse(FAULTY);
        }
        now.copy(campReader.draft);
        plan.drop();
        return give(now.boys);
    }

    public int weeks(int n) {
        if (!within(n, 0, text.fed) || n > MOST_WEEKS) {
            return refuse(BAD_NUMBER);
        }
        boolean taken = weeksReader.takeIn(n, now);
        text.fed = 0;
        if (!taken) {
            return refuse(FAULTY);
        }
        plan.copy(weeksReader.draft);
        return give(plan.steps);
    }

    public int fault(int what) {
        if (what == 0) {
            return text.fault;
        }
        return what == 1 ? text.faultAt : NONE;
    }

    public int told(int what) {
        switch (what) {
            case 0: return give(now.boys);
            case 1: return give(now.quarrels);
            case 2: return give(now.wide);
            case 3: return give(now.high);
            case 4: return give(now.odds);
            case 5: return give(now.minute);
            case 6: return give(now.upSet());
            case 7: return give(now.openSet());
            case 8: return give(now.openGrudges());
            default: return refuse(BAD_NUMBER);
        }
    }

    public int boy(int boy, int what) {
        if (!now.hasBoy(boy)) {
            return refuse(BAD_NUMBER);
        }
        switch (what) {
            case 0: return give(now.cell[boy]);
            case 1: return give(now.pride[boy]);
            case 2: return give(now.soft[boy]);
            case 3: return give(now.ears[boy]);
            case 4: return give(now.isUp(boy) ? 1 : 0);
            case 5: return give(now.openOf(boy));
            case 6: return give(now.yields[boy]);
            default: return refuse(BAD_NUMBER);
        }
    }

    public int quarrel(int quarrel, int what) {
        if (!now.hasQuarrel(quarrel)) {
            return refuse(BAD_NUMBER);
        }
        switch (what) {
            case 0: return give(now.first[quarrel]);
            case 1: return give(now.second[quarrel]);
            case 2: return give(now.grudge[quarrel]);
            case 3: return give(now.ended[quarrel]);
            default: return refuse(BAD_NUMBER);
        }
    }

    // ---- what is done.

    public int minute(int many) {
        if (!within(many, 1, 240)) {
            return refuse(BAD_NUMBER);
        }
        if (now.minute + many > LAST_MINUTE) {
            return refuse(TOO_MANY);
        }
        return give(now.pass(many));
    }

    public int dawn() {
        return give(now.strike());
    }

    public int boot(int boy, int other, int grudge) {
        if (!now.hasBoy(boy) || !now.hasBoy(other) || boy == other || !within(grudge, 0, MOST_GRUDGE)) {
            return refuse(BAD_NUMBER);
        }
        if (now.quarrels >= MOST_QUARRELS) {
            return refuse(TOO_MANY);
        }
        return give(now.addQuarrel(boy, other, grudge));
    }

    public int forgive(int boy) {
        if (!now.hasBoy(boy)) {
            return refuse(BAD_NUMBER);
        }
        if (now.isUp(boy)) {
            return refuse(CANNOT_BE);
        }
        return give(now.giveIn(boy));
    }

    public int pitch(int boy, int cell) {
        if (!now.hasBoy(boy) || !now.hasCell(cell)) {
            return refuse(BAD_NUMBER);
        }
        int old = now.cell[boy];
        if (old == cell) {
            return refuse(CANNOT_BE);
        }
        now.place(boy, cell);
        return give(old);
    }

    public boolean teach(int boy, int what, int much) {
        if (!now.hasBoy(boy)) {
            return deny(BAD_NUMBER);
        }
        if (what == 1 && within(much, 1, MOST_PRIDE)) {
            now.pride[boy] = much;
            return grant();
        }
        if (what == 2 && within(much, 0, 9)) {
            now.soft[boy] = much;
            return grant();
        }
        if (what == 3 && within(much, 0, 9)) {
            now.tune(boy, much);
            return grant();
        }
        return deny(BAD_NUMBER);
    }

    public int stir(int quarrel, int grudge) {
        if (!now.hasQuarrel(quarrel) || !within(grudge, 0, MOST_GRUDGE)) {
            return refuse(BAD_NUMBER);
        }
        if (!now.isOpen(quarrel)) {
            return refuse(CANNOT_BE);
        }
        int old = now.grudge[quarrel];
        now.grudge[quarrel] = grudge;
        return give(old);
    }

    public int come(int cell, int pride) {
        if (!now.hasCell(cell) || !within(pride, 1, MOST_PRIDE)) {
            return refuse(BAD_NUMBER);
        }
        if (now.boys >= MOST_BOYS) {
            return refuse(TOO_MANY);
        }
        return give(now.addBoy(Camp.NAMELESS, cell, pride, Camp.USUAL_SOFT, Camp.USUAL_EARS));
    }

    public boolean rule(int odds) {
        if (!within(odds, 0, MOST_ODDS)) {
            return deny(BAD_NUMBER);
        }
        now.odds = odds;
        return grant();
    }

    // ---- who hears whom.

    public int far(int boy, int other) {
        if (!now.hasBoy(boy) || !now.hasBoy(other)) {
            return refuse(BAD_NUMBER);
        }
        return give(now.stepsBetween(boy, other));
    }

    public int hears(int boy) {
        if (!now.hasBoy(boy)) {
            return refuse(BAD_NUMBER);
        }
        return give(now.earshot[boy] & now.upSet());
    }

    public int near(int boy) {
        if (!now.hasBoy(boy)) {
            return refuse(BAD_NUMBER);
        }
        return give(now.earshot[boy]);
    }

    public int due(int boy, int quarrel) {
        if (!now.hasBoy(boy) || !now.hasQuarrel(quarrel)) {
            return refuse(BAD_NUMBER);
        }
        if (now.first[quarrel] != boy && now.second[quarrel] != boy) {
            return refuse(NO_SUCH);
        }
        if (!now.isOpen(quarrel)) {
            return refuse(CANNOT_BE);
        }
        return give(now.dueMinute(boy, quarrel, now.upSet()));
    }

    // ---- mornings.

    public int upIn(int boy) {
        if (!now.hasBoy(boy)) {
            return refuse(BAD_NUMBER);
        }
        ahead.look(now);
        return give(ahead.upAfter[boy]);
    }

    public int upBy(int minutes) {
        if (!within(minutes, 0, MOST_MINUTES_TOLD)) {
            return refuse(BAD_NUMBER);
        }
        ahead.look(now);
        return give(ahead.upWithin(minutes));
    }

    public int breakfast() {
        return give(ahead.look(now));
    }

    public int overIn(int quarrel) {
        if (!now.hasQuarrel(quarrel)) {
            return refuse(BAD_NUMBER);
        }
        ahead.look(now);
        return give(ahead.overAfter[quarrel]);
    }

    public int yielder(int quarrel) {
        if (!now.hasQuarrel(quarrel)) {
            return refuse(BAD_NUMBER);
        }
        ahead.look(now);
        return give(ahead.later.ended[quarrel]);
    }

    public int reveille() {
        ahead.look(now);
        if (ahead.firstToYield == NONE) {
            return refuse(NO_SUCH);
        }
        return give(ahead.firstToYield);
    }

    public int last() {
        if (now.boys == 0) {
            return refuse(NO_SUCH);
        }
        ahead.look(now);
        return give(ahead.lastUp());
    }

    // ---- what to do.

    private int soonestStatus(int k) {
        if (!within(k, 0, 4)) {
            return BAD_NUMBER;
        }
        return k > now.boys ? NO_SUCH : 0;
    }

    public int soonest(int k) {
        int wrong = soonestStatus(k);
        return wrong != 0 ? refuse(wrong) : give(plans.quickestSet(now, k));
    }

    public int soonestIn(int k) {
        int wrong = soonestStatus(k);
        if (wrong != 0) {
            return refuse(wrong);
        }
        plans.quickestSet(now, k);
        return give(plans.reached);
    }

    public int best(int boy) {
        if (!now.hasBoy(boy)) {
            return refuse(BAD_NUMBER);
        }
        return give(plans.quickestCell(now, boy));
    }

    public int bestIn(int boy) {
        if (!now.hasBoy(boy)) {
            return refuse(BAD_NUMBER);
        }
        plans.quickestCell(now, boy);
        return give(plans.reached);
    }

    public int ending() {
        return give(Integer.bitCount(Plans.fewestEnders(now)));
    }

    public int endingSet() {
        return give(Plans.fewestEnders(now));
    }

    public int apart() {
        return give(Integer.bitCount(Plans.mostApart(now)));
    }

    public int apartSet() {
        return give(Plans.mostApart(now));
    }

    public int circle(int boy) {
        if (!now.hasBoy(boy)) {
            return refuse(BAD_NUMBER);
        }
        return give(Plans.circleOf(now, boy));
    }

    public int circles() {
        return give(Plans.howManyCircles(now));
    }

    public int sides() {
        int side = Plans.leastSide(now);
        return side == NONE ? refuse(NO_SUCH) : give(side);
    }

    // ---- what was seen.

    private int clueStatus(int boy, int tray, int n) {
        if (!now.hasBoy(boy) || !trays.known(tray) || !within(n, 0, MOST_TWOS)) {
            return BAD_NUMBER;
        }
        if (!trays.laid(tray)) {
            return MISSING;
        }
        if (!trays.holds(tray, 0, 2 * n)) {
            return NO_PLACE;
        }
        for (int i = 0; i < n; i++) {
            boolean known = within(trays.get(tray, 2 * i), 0, now.boys - 1);
            if (!known || !within(trays.get(tray, 2 * i + 1), 0, MOST_MINUTES_TOLD)) {
                return BAD_ENTRY;
            }
        }
        return 0;
    }

    private int fittingPrides(int boy, int tray, int n) {
        clues.forget();
        for (int i = 0; i < n; i++) {
            clues.add((int) trays.get(tray, 2 * i), (int) trays.get(tray, 2 * i + 1));
        }
        return clues.fittingPrides(now, boy);
    }

    public int fits(int boy, int tray, int n) {
        int wrong = clueStatus(boy, tray, n);
        if (wrong != 0) {
            return refuse(wrong);
        }
        return give(Integer.bitCount(fittingPrides(boy, tray, n)));
    }

    public int fitsAt(int boy, int tray, int n, int what) {
        int wrong = within(what, 0, 1) ? clueStatus(boy, tray, n) : BAD_NUMBER;
        if (wrong != 0) {
            return refuse(wrong);
        }
        int prides = fittingPrides(boy, tray, n);
        if (prides == 0) {
            return refuse(NO_SUCH);
        }
        return give(what == 0 ? Clues.least(prides) : Clues.greatest(prides));
    }

    public int ask(int boy, int tray, int n) {
        int wrong = clueStatus(boy, tray, n);
        if (wrong != 0) {
            return refuse(wrong);
        }
        int prides = fittingPrides(boy, tray, n);
        if (Integer.bitCount(prides) < 2) {
            return refuse(NO_SUCH);
        }
        return give(clues.bestParter(now.boys, prides));
    }

    // ---- wars, games, odds.

    public int rests(int quarrel, int n) {
        if (!now.hasQuarrel(quarrel) || !within(n, 0, MOST_WAR)) {
            return refuse(BAD_NUMBER);
        }
        return give(Games.howManyRests(now.grudge[quarrel], n));
    }

    public int restAt(int quarrel, int n, int k, int what) {
        if (!now.hasQuarrel(quarrel) || !within(n, 0, MOST_WAR) || k < 0 || !within(what, 0, 1)) {
            return refuse(BAD_NUMBER);
        }
        int couple = Games.restOf(now.grudge[quarrel], n, k);
        if (couple == NONE) {
            return refuse(NO_SUCH);
        }
        return give(what == 0 ? couple / (n + 1) : couple % (n + 1));
    }

    public int game(int turns) {
        if (!within(turns, 0, MOST_TURNS)) {
            return refuse(BAD_NUMBER);
        }
        return give(games.outcome(now, turns));
    }

    public int moveOf(int turns) {
        if (!within(turns, 1, MOST_TURNS)) {
            return refuse(BAD_NUMBER);
        }
        int move = games.firstMove(now, turns);
        return move == NONE ? refuse(NO_SUCH) : give(move);
    }

    public boolean night(int k) {
        if (!within(k, 0, 10)) {
            return deny(BAD_NUMBER);
        }
        int open = Integer.bitCount(now.openSet());
        tellFraction(Games.nightsWithFew(open, k, now.odds), Games.power(MOST_ODDS, open));
        return grant();
    }

    public boolean wakes(int boy) {
        if (!now.hasBoy(boy)) {
            return deny(BAD_NUMBER);
        }
        int open = now.openOf(boy);
        tellFraction(Games.power(now.odds, open), Games.power(MOST_ODDS, open));
        return grant();
    }

    public int copyYields(int tray) {
        if (!trays.known(tray)) {
            return refuse(BAD_NUMBER);
        }
        if (!trays.laid(tray)) {
            return refuse(MISSING);
        }
        if (!trays.holds(tray, 0, now.boys)) {
            return refuse(NO_PLACE);
        }
        for (int b = 0; b < now.boys; b++) {
            trays.put(tray, b, now.yields[b]);
        }
        return give(now.boys);
    }

    // ---- WEEKS.

    public int live(int seed) {
        if (!within(seed, 0, LAST_SEED)) {
            return refuse(BAD_NUMBER);
        }
        if (!plan.there) {
            return refuse(NO_SUCH);
        }
        life.run(now, plan, seed);
        latestLife[0] = life.missed;
        latestLife[1] = life.minutes;
        latestLife[2] = life.over;
        latestLife[3] = life.fresh;
        latestLife[4] = life.left ? 1 : 0;
        hasLived = true;
        return give(life.steps);
    }

    public int lived(int what) {
        if (!within(what, 0, 4)) {
            return refuse(BAD_NUMBER);
        }
        return hasLived ? give(latestLife[what]) : refuse(NO_SUCH);
    }

    public boolean mean(int seed, int many) {
        if (!within(seed, 0, LAST_SEED) || !within(many, 1, 20) || seed + many - 1 > LAST_SEED) {
            return deny(BAD_NUMBER);
        }
        if (!plan.there) {
            return deny(NO_SUCH);
        }
        int open = 0;
        for (int i = 0; i < many; i++) {
            trial.copy(now);
            life.run(trial, plan, seed + i);
            open += Integer.bitCount(trial.openSet());
        }
        tellFraction(open, many);
        return grant();
    }

    // ---- MARKS.

    public int mark() {
        if (marks < 0 || marks >= MOST_MARKS) {
            return refuse(TOO_MANY);
        }
        Camp keptCamp = markedCamps[marks];
        Weeks keptWeeks = markedWeeks[marks];
        if (keptCamp == null || keptWeeks == null) {
            return refuse(TOO_MANY);
        }
        keptCamp.copy(now);
        keptWeeks.copy(plan);
        marks++;
        return give(marks);
    }

    public int undo() {
        if (marks < 1 || marks > MOST_MARKS) {
            return refuse(NO_SUCH);
        }
        Camp keptCamp = markedCamps[marks - 1];
        Weeks keptWeeks = markedWeeks[marks - 1];
        if (keptCamp == null || keptWeeks == null) {
            return refuse(NO_SUCH);
        }
        now.copy(keptCamp);
        plan.copy(keptWeeks);
        marks--;
        return give(marks);
    }

    /** The TRAYS lie one behind the other in one row; one that is MISSING has the sort NONE. */
    private static final class Trays {
        final int[] sort = new int[TRAYS];
        final int[] size = new int[TRAYS];
        final long[] numbers = new long[TRAYS * MOST_PLACES];

        Trays() {
            for (int i = 0; i < TRAYS; i++) {
                sort[i] = NONE;
            }
        }

        boolean known(int tray) {
            return tray >= 0 && tray < TRAYS;
        }

        boolean laid(int tray) {
            return known(tray) && sort[tray] != NONE;
        }

        boolean alike(int one, int other) {
            return known(one) && known(other) && sort[one] == sort[other];
        }

        boolean has(int tray, int place) {
            return laid(tray) && place >= 0 && place < size[tray];
        }

        boolean holds(int tray, int place, int many) {
            return laid(tray) && place >= 0 && many >= 0 && place <= size[tray] && many <= size[tray] - place;
        }

        void lay(int tray, int newSort, int many) {
            if (!known(tray) || many < 0 || many > MOST_PLACES) {
                return;
            }
            sort[tray] = newSort;
            size[tray] = many;
            for (int i = 0; i < many; i++) {
                numbers[tray * MOST_PLACES + i] = 0;
            }
        }

        void put(int tray, int place, long v) {
            if (has(tray, place)) {
                numbers[tray * MOST_PLACES + place] = cut(v, sort[tray]);
            }
        }

        long get(int tray, int place) {
            return has(tray, place) ? numbers[tray * MOST_PLACES + place] : NONE;
        }

        void move(int from, int place, int to, int at, int many) {
            if (holds(from, place, many) && holds(to, at, many)) {
                System.arraycopy(numbers, from * MOST_PLACES + place, numbers, to * MOST_PLACES + at, many);
            }
        }

        static long cut(long v, int sort) {
            switch (sort) {
                case 0: return (byte) v;
                case 1: return (short) v;
                case 2: return (int) v;
                default: return v;
            }
        }
    }

    /** The CAMP with all that became of it. */
    private static final class Camp {
        static final long NAMELESS = 0;
        static final int USUAL_SOFT = 1;
        static final int USUAL_EARS = 2;

        int wide;
        int high;
        int odds;
        int minute;
        int boys;
        int quarrels;
        final long[] name = new long[MOST_BOYS];
        final int[] cell = new int[MOST_BOYS];
        final int[] pride = new int[MOST_BOYS];
        final int[] soft = new int[MOST_BOYS];
        final int[] ears = new int[MOST_BOYS];
        final int[] yields = new int[MOST_BOYS];
        /** Whom each would HEAR if all were UP; kept, as what lies ahead asks for it again and again. */
        final int[] earshot = new int[MOST_BOYS];
        final int[] first = new int[MOST_QUARRELS];
        final int[] second = new int[MOST_QUARRELS];
        final int[] grudge = new int[MOST_QUARRELS];
        /** 0 as long as it is OPEN, else who YIELDED: 1 the first, 2 the second, 3 both. */
        final int[] ended = new int[MOST_QUARRELS];

        Camp() {
            empty();
        }

        void empty() {
            wide = 4;
            high = 3;
            odds = 4;
            minute = 0;
            boys = 0;
            quarrels = 0;
        }

        void copy(Camp from) {
            if (from == null) {
                return;
            }
            wide = from.wide;
            high = from.high;
            odds = from.odds;
            minute = from.minute;
            boys = from.boys;
            quarrels = from.quarrels;
            System.arraycopy(from.name, 0, name, 0, MOST_BOYS);
            System.arraycopy(from.cell, 0, cell, 0, MOST_BOYS);
            System.arraycopy(from.pride, 0, pride, 0, MOST_BOYS);
            System.arraycopy(from.soft, 0, soft, 0, MOST_BOYS);
            System.arraycopy(from.ears, 0, ears, 0, MOST_BOYS);
            System.arraycopy(from.yields, 0, yields, 0, MOST_BOYS);
            System.arraycopy(from.earshot, 0, earshot, 0, MOST_BOYS);
            System.arraycopy(from.first, 0, first, 0, MOST_QUARRELS);
            System.arraycopy(from.second, 0, second, 0, MOST_QUARRELS);
            System.arraycopy(from.grudge, 0, grudge, 0, MOST_QUARRELS);
            System.arraycopy(from.ended, 0, ended, 0, MOST_QUARRELS);
        }

        boolean hasBoy(int b) {
            return b >= 0 && b < boys && boys <= MOST_BOYS;
        }

        boolean hasQuarrel(int q) {
            return q >= 0 && q < quarrels && quarrels <= MOST_QUARRELS;
        }

        boolean hasCell(int c) {
            return c >= 0 && c < wide * high;
        }

        int named(long word) {
            for (int b = 0; b < boys; b++) {
                if (name[b] == word) {
                    return b;
                }
            }
            return NONE;
        }

        int addBoy(long newName, int at, int newPride, int newSoft, int newEars) {
            if (boys < 0 || boys >= MOST_BOYS) {
                return NONE;
            }
            int b = boys;
            name[b] = newName;
            cell[b] = at;
            pride[b] = newPride;
            soft[b] = newSoft;
            ears[b] = newEars;
            yields[b] = 0;
            boys++;
            listen();
            return b;
        }

        int addQuarrel(int one, int other, int newGrudge) {
            if (quarrels < 0 || quarrels >= MOST_QUARRELS) {
                return NONE;
            }
            int q = quarrels;
            first[q] = one;
            second[q] = other;
            grudge[q] = newGrudge;
            ended[q] = 0;
            quarrels++;
            return q;
        }

        void place(int b, int at) {
            if (hasBoy(b)) {
                cell[b] = at;
                listen();
            }
        }

        void tune(int b, int newEars) {
            if (hasBoy(b)) {
                ears[b] = newEars;
                listen();
            }
        }

        void listen() {
            for (int b = 0; b < boys; b++) {
                int set = 0;
                for (int other = 0; other < boys; other++) {
                    if (other != b && stepsBetween(b, other) <= ears[b]) {
                        set |= 1 << other;
                    }
                }
                earshot[b] = set;
            }
        }

        int stepsBetween(int b, int other) {
            if (!hasBoy(b) || !hasBoy(other) || wide < 1) {
                return 0;
            }
            int across = Math.abs(cell[b] % wide - cell[other] % wide);
            int along = Math.abs(cell[b] / wide - cell[other] / wide);
            return across + along;
        }

        boolean isOpen(int q) {
            return hasQuarrel(q) && ended[q] == 0;
        }

        boolean isUp(int b) {
            return (upSet() & 1 << b) != 0;
        }

        int upSet() {
            int up = (1 << boys) - 1;
            for (int q = 0; q < quarrels; q++) {
                if (ended[q] == 0) {
                    up &= ~(1 << first[q] | 1 << second[q]);
                }
            }
            return up;
        }

        int openSet() {
            int open = 0;
            for (int q = 0; q < quarrels; q++) {
                if (ended[q] == 0) {
                    open |= 1 << q;
                }
            }
            return open;
        }

        int openGrudges() {
            int sum = 0;
            for (int q = 0; q < quarrels; q++) {
                sum += ended[q] == 0 ? grudge[q] : 0;
            }
            return sum;
        }

        int openOf(int b) {
            int many = 0;
            for (int q = 0; q < quarrels; q++) {
                if (ended[q] == 0 && (first[q] == b || second[q] == b)) {
                    many++;
                }
            }
            return many;
        }

        int dueMinute(int b, int q, int up) {
            if (!hasBoy(b) || !hasQuarrel(q)) {
                return NEVER;
            }
            return grudge[q] + pride[b] - soft[b] * Integer.bitCount(earshot[b] & up);
        }

        /** NEVER if none is OPEN. */
        int earliestDue() {
            int up = upSet();
            int earliest = NEVER;
            for (int q = 0; q < quarrels; q++) {
                if (ended[q] == 0) {
                    int due = Math.min(dueMinute(first[q], q, up), dueMinute(second[q], q, up));
                    earliest = Math.min(earliest, due);
                }
            }
            return earliest;
        }

        /** Whom all HEAR is taken at the beginning, as all YIELD at once; gives the set of those who YIELDED. */
        int minuteOfYielding() {
            int up = upSet();
            int yielded = 0;
            for (int q = 0; q < quarrels; q++) {
                if (ended[q] == 0) {
                    boolean one = dueMinute(first[q], q, up) <= minute;
                    boolean other = dueMinute(second[q], q, up) <= minute;
                    yielded |= endBy(q, one, other);
                }
            }
            minute++;
            return yielded;
        }

        private int endBy(int q, boolean one, boolean other) {
            int set = 0;
            if (one && hasBoy(first[q])) {
                ended[q] |= 1;
                yields[first[q]]++;
                set |= 1 << first[q];
            }
            if (other && hasBoy(second[q])) {
                ended[q] |= 2;
                yields[second[q]]++;
                set |= 1 << second[q];
            }
            return set;
        }

        /** Goes from one MINUTE in which somebody YIELDS to the next: between them nothing changes. */
        int pass(int many) {
            int end = minute + many;
            int openAhead = Integer.bitCount(openSet());
            for (int round = 0; round < MOST_QUARRELS; round++) {
                int next = Math.max(minute, earliestDue());
                if (next >= end) {
                    break;
                }
                minute = next;
                minuteOfYielding();
            }
            minute = end;
            return openAhead - Integer.bitCount(openSet());
        }

        int giveIn(int b) {
            int many = 0;
            for (int q = 0; q < quarrels; q++) {
                if (ended[q] == 0 && (first[q] == b || second[q] == b)) {
                    endBy(q, first[q] == b, second[q] == b);
                    many++;
                }
            }
            return many;
        }

        int strike() {
            int kept = 0;
            int all = quarrels;
            for (int q = 0; q < all; q++) {
                if (ended[q] == 0) {
                    first[kept] = first[q];
                    second[kept] = second[q];
                    grudge[kept] = grudge[q];
                    ended[kept] = 0;
                    kept++;
                }
            }
            quarrels = kept;
            minute = 0;
            return all - kept;
        }
    }

    /** What comes if only MINUTES go by. */
    private static final class Ahead {
        final Camp later = new Camp();
        final int[] upAfter = new int[MOST_BOYS];
        final int[] overAfter = new int[MOST_QUARRELS];
        int firstToYield = NONE;

        /** Gives BREAKFAST; in each round a QUARREL at least is over, so ten are enough. */
        int look(Camp from) {
            later.copy(from);
            firstToYield = NONE;
            begin();
            int start = later.minute;
            int breakfast = 0;
            for (int round = 0; round < MOST_QUARRELS && later.openSet() != 0; round++) {
                later.minute = Math.max(later.minute, later.earliestDue());
                int yielded = later.minuteOfYielding();
                if (firstToYield == NONE) {
                    firstToYield = firstOf(yielded);
                }
                breakfast = later.minute - start;
                note(breakfast);
            }
            return breakfast;
        }

        private static int firstOf(int set) {
            for (int b = 0; b < MOST_BOYS; b++) {
                if ((set & 1 << b) != 0) {
                    return b;
                }
            }
            return NONE;
        }

        private void begin() {
            int up = later.upSet();
            for (int b = 0; b < later.boys; b++) {
                upAfter[b] = (up & 1 << b) != 0 ? 0 : NONE;
            }
            for (int q = 0; q < later.quarrels; q++) {
                overAfter[q] = later.ended[q] != 0 ? 0 : NONE;
            }
        }

        private void note(int minutes) {
            int up = later.upSet();
            for (int b = 0; b < later.boys; b++) {
                if (upAfter[b] == NONE && (up & 1 << b) != 0) {
                    upAfter[b] = minutes;
                }
            }
            for (int q = 0; q < later.quarrels; q++) {
                if (overAfter[q] == NONE && later.ended[q] != 0) {
                    overAfter[q] = minutes;
                }
            }
        }

        int upWithin(int minutes) {
            int set = 0;
            for (int b = 0; b < later.boys; b++) {
                if (upAfter[b] <= minutes) {
                    set |= 1 << b;
                }
            }
            return set;
        }

        int lastUp() {
            int last = 0;
            for (int b = 1; b < later.boys; b++) {
                if (upAfter[b] > upAfter[last]) {
                    last = b;
                }
            }
            return last;
        }
    }

    /** Searches in all sets; of several that are as good the first met is kept, which is the least. */
    private static final class Plans {
        private final Camp trial;
        private final Ahead ahead;
        /** BREAKFAST by what was found latest. */
        int reached = 0;

        Plans(Camp trial, Ahead ahead) {
            this.trial = trial;
            this.ahead = ahead;
        }

        int quickestSet(Camp camp, int k) {
            int found = 0;
            reached = NEVER;
            for (int set = 0; set < 1 << camp.boys; set++) {
                if (Integer.bitCount(set) == k) {
                    int breakfast = breakfastIfYield(camp, set);
                    if (breakfast < reached) {
                        reached = breakfast;
                        found = set;
                    }
                }
            }
            return found;
        }

        private int breakfastIfYield(Camp camp, int set) {
            trial.copy(camp);
            for (int b = 0; b < camp.boys; b++) {
                if ((set & 1 << b) != 0) {
                    trial.giveIn(b);
                }
            }
            return ahead.look(trial);
        }

        int quickestCell(Camp camp, int boy) {
            int found = 0;
            reached = NEVER;
            trial.copy(camp);
            int cells = camp.wide * camp.high;
            for (int cell = 0; cell < cells; cell++) {
                trial.place(boy, cell);
                int breakfast = ahead.look(trial);
                if (breakfast < reached) {
                    reached = breakfast;
                    found = cell;
                }
            }
            return found;
        }

        static int fewestEnders(Camp camp) {
            int all = (1 << camp.boys) - 1;
            int found = all;
            for (int set = 0; set <= all; set++) {
                if (Integer.bitCount(set) < Integer.bitCount(found) && endsAll(camp, set)) {
                    found = set;
                }
            }
            return found;
        }

        private static boolean endsAll(Camp camp, int set) {
            for (int q = 0; q < camp.quarrels; q++) {
                if (camp.ended[q] == 0 && (set & pairOf(camp, q)) == 0) {
                    return false;
                }
            }
            return true;
        }

        private static int pairOf(Camp camp, int q) {
            return camp.hasQuarrel(q) ? 1 << camp.first[q] | 1 << camp.second[q] : 0;
        }

        static int mostApart(Camp camp) {
            int open = camp.openSet();
            int found = 0;
            for (int set = 0; set < 1 << camp.quarrels; set++) {
                boolean more = Integer.bitCount(set) > Integer.bitCount(found);
                if (more && (set & ~open) == 0 && isApart(camp, set)) {
                    found = set;
                }
            }
            return found;
        }

        private static boolean isApart(Camp camp, int set) {
            int met = 0;
            for (int q = 0; q < camp.quarrels; q++) {
                if ((set & 1 << q) != 0) {
                    int pair = pairOf(camp, q);
                    if ((met & pair) != 0) {
                        return false;
                    }
                    met |= pair;
                }
            }
            return true;
        }

        /** The farthest BOY of a CIRCLE is seven QUARRELS off, so eight rounds meet them all. */
        static int circleOf(Camp camp, int boy) {
            int set = 1 << boy;
            for (int round = 0; round < MOST_BOYS; round++) {
                for (int q = 0; q < camp.quarrels; q++) {
                    int pair = pairOf(camp, q);
                    if (camp.ended[q] == 0 && (set & pair) != 0) {
                        set |= pair;
                    }
                }
            }
            return set;
        }

        /** A CIRCLE is counted at the first BOY in it. */
        static int howManyCircles(Camp camp) {
            int many = 0;
            for (int b = 0; b < camp.boys; b++) {
                int thoseAhead = (1 << b) - 1;
                if ((circleOf(camp, b) & thoseAhead) == 0) {
                    many++;
                }
            }
            return many;
        }

        static int leastSide(Camp camp) {
            for (int set = 0; set < 1 << camp.boys; set++) {
                if (isSide(camp, set)) {
                    return set;
                }
            }
            return NONE;
        }

        private static boolean isSide(Camp camp, int set) {
            for (int q = 0; q < camp.quarrels; q++) {
                if (camp.ended[q] == 0 && Integer.bitCount(set & pairOf(camp, q)) != 1) {
                    return false;
                }
            }
            return true;
        }
    }

    /** What a PRIDE must have been, by who was UP when. */
    private static final class Clues {
        private final Camp trial;
        private final Ahead ahead;
        private final int[] seen = new int[MOST_TWOS];
        private final int[] after = new int[MOST_TWOS];
        private int twos = 0;
        /** When each BOY is UP first, by each PRIDE tried latest. */
        private final int[] upByPride = new int[(MOST_PRIDE + 1) * MOST_BOYS];

        Clues(Camp trial, Ahead ahead) {
            this.trial = trial;
            this.ahead = ahead;
        }

        void forget() {
            twos = 0;
        }

        void add(int boy, int minutes) {
            if (twos >= 0 && twos < MOST_TWOS) {
                seen[twos] = boy;
                after[twos] = minutes;
                twos++;
            }
        }

        /** A set: 1 << p for the PRIDE p. */
        int fittingPrides(Camp camp, int boy) {
            int prides = 0;
            if (!camp.hasBoy(boy)) {
                return prides;
            }
            trial.copy(camp);
            for (int p = 1; p <= MOST_PRIDE; p++) {
                trial.pride[boy] = p;
                ahead.look(trial);
                System.arraycopy(ahead.upAfter, 0, upByPride, p * MOST_BOYS, MOST_BOYS);
                if (asSeen(camp.boys)) {
                    prides |= 1 << p;
                }
            }
            return prides;
        }

        private boolean asSeen(int boys) {
            for (int i = 0; i < twos; i++) {
                int boy = seen[i];
                if (boy < 0 || boy >= boys || boy >= MOST_BOYS || ahead.upAfter[boy] != after[i]) {
                    return false;
                }
            }
            return true;
        }

        int bestParter(int boys, int prides) {
            int found = 0;
            int fewest = NEVER;
            for (int b = 0; b < boys; b++) {
                int most = mostAlike(b, prides);
                if (most < fewest) {
                    fewest = most;
                    found = b;
                }
            }
            return found;
        }

        private int mostAlike(int b, int prides) {
            int most = 0;
            for (int p = 1; p <= MOST_PRIDE; p++) {
                if ((prides & 1 << p) != 0) {
                    most = Math.max(most, alike(b, prides, p));
                }
            }
            return most;
        }

        private int alike(int b, int prides, int p) {
            int many = 0;
            if (b < 0 || b >= MOST_BOYS || p < 1 || p > MOST_PRIDE) {
                return many;
            }
            for (int other = 1; other <= MOST_PRIDE; other++) {
                boolean same = upByPride[other * MOST_BOYS + b] == upByPride[p * MOST_BOYS + b];
                if (same && (prides & 1 << other) != 0) {
                    many++;
                }
            }
            return many;
        }

        static int least(int prides) {
            for (int p = 1; p <= MOST_PRIDE; p++) {
                if ((prides & 1 << p) != 0) {
                    return p;
                }
            }
            return NONE;
        }

        static int greatest(int prides) {
            for (int p = MOST_PRIDE; p >= 1; p--) {
                if ((prides & 1 << p) != 0) {
                    return p;
                }
            }
            return NONE;
        }
    }

    /** WARS, GAMES and NIGHTS. */
    private static final class Games {
        private final Camp trial;
        private final Ahead ahead;

        Games(Camp trial, Ahead ahead) {
            this.trial = trial;
            this.ahead = ahead;
        }

        private static int won(int own, int his, int grudge) {
            return own <= his ? -own : grudge - his;
        }

        private static boolean isRest(int one, int other, int grudge, int n) {
            for (int choice = 0; choice <= n; choice++) {
                if (won(choice, other, grudge) > won(one, other, grudge)) {
                    return false;
                }
                if (won(choice, one, grudge) > won(other, one, grudge)) {
                    return false;
                }
            }
            return true;
        }

        static int howManyRests(int grudge, int n) {
            int many = 0;
            for (int one = 0; one <= n; one++) {
                for (int other = 0; other <= n; other++) {
                    if (isRest(one, other, grudge, n)) {
                        many++;
                    }
                }
            }
            return many;
        }

        /** The couple as one number: the first one's choice times n + 1, and the second one's. */
        static int restOf(int grudge, int n, int k) {
            int met = 0;
            for (int one = 0; one <= n; one++) {
                for (int other = 0; other <= n; other++) {
                    if (isRest(one, other, grudge, n)) {
                        if (met == k) {
                            return one * (n + 1) + other;
                        }
                        met++;
                    }
                }
            }
            return NONE;
        }

        int outcome(Camp camp, int turns) {
            trial.copy(camp);
            return play(trial, ahead, 0, turns);
        }

        int firstMove(Camp camp, int turns) {
            trial.copy(camp);
            int soonest = NEVER;
            int move = NONE;
            for (int q = 0; q < camp.quarrels; q++) {
                if (trial.ended[q] == 0) {
                    int breakfast = playedOn(trial, ahead, 0, turns, q);
                    if (breakfast < soonest) {
                        soonest = breakfast;
                        move = q;
                    }
                }
            }
            return play(trial, ahead, 1, turns) < soonest ? NONE : move;
        }

        /** The eager one has the even turns; a turn is never above the three that the document allows. */
        private static int play(Camp camp, Ahead ahead, int turn, int turns) {
            if (turn >= turns || turn >= MOST_TURNS) {
                return ahead.look(camp);
            }
            int found = play(camp, ahead, turn + 1, turns);
            for (int q = 0; q < camp.quarrels; q++) {
                if (camp.ended[q] == 0) {
                    int breakfast = playedOn(camp, ahead, turn, turns, q);
                    found = turn % 2 == 0 ? Math.min(found, breakfast) : Math.max(found, breakfast);
                }
            }
            return found;
        }

        /** What is done to the QUARREL is taken back, so that one CAMP serves for all tries. */
        private static int playedOn(Camp camp, Ahead ahead, int turn, int turns, int q) {
            if (!camp.hasQuarrel(q)) {
                return NEVER;
            }
            int grudge = camp.grudge[q];
            int ended = camp.ended[q];
            if (turn % 2 == 0) {
                camp.ended[q] = 1;
            } else {
                camp.grudge[q] = Math.min(MOST_GRUDGE, grudge + 9);
            }
            int breakfast = play(camp, ahead, turn + 1, turns);
            camp.grudge[q] = grudge;
            camp.ended[q] = ended;
            return breakfast;
        }

        /** Of 16 to the power of open ones: in how many k or fewer stay OPEN. */
        static long nightsWithFew(int open, int k, int odds) {
            long sum = 0;
            long ways = 1;
            for (int stay = 0; stay <= open && stay <= k; stay++) {
                sum += ways * power(odds, open - stay) * power(MOST_ODDS - odds, stay);
                ways = ways * (open - stay) / (stay + 1);
            }
            return sum;
        }

        static long power(long base, int times) {
            long product = 1;
            for (int i = 0; i < times; i++) {
                product *= base;
            }
            return product;
        }

        /** The rests at least halve in two rounds, so 200 are more than two longs can need. */
        static long commonDivisor(long one, long other) {
            long a = one;
            long b = other;
            for (int round = 0; round < 200 && b != 0; round++) {
                long rest = a % b;
                a = b;
                b = rest;
            }
            return a;
        }
    }

    /** The tape, its TOKENS one by one, and the first FAULT. */
    private static final class Text {
        static final int AT_END = 0;
        static final int WORD = 1;
        static final int NUMBER = 2;
        static final int SIGN = 3;
        static final int NO_KIND = 4;
        /** No WORD of 8 letters or fewer has this code. */
        static final long LONG_WORD = -1;

        final byte[] tape = new byte[MOST_TAPE];
        int fed = 0;
        private int length = 0;
        private int next = 0;
        private int kind = AT_END;
        private int start = 0;
        long word = 0;
        /** Its number among the RESERVED words, NONE for others. */
        int key = NONE;
        private int value = 0;
        private int sign = 0;
        /** The NUMBER or SIGN taken latest. */
        int taken = 0;
        int fault = NONE;
        int faultAt = NONE;
        private final long[] reserved = new long[RESERVED_WORDS];

        Text() {
            int number = 0;
            for (int i = 0; i < RESERVED.length() && number < RESERVED_WORDS; i++) {
                char c = RESERVED.charAt(i);
                if (c == ' ') {
                    number++;
                } else {
                    reserved[number] = withLetter(reserved[number], c);
                }
            }
        }

        private static long withLetter(long code, int letter) {
            return code * 32 + (letter - 'a' + 1);
        }

        boolean hasRoom() {
            return fed >= 0 && fed + 20 <= MOST_TAPE;
        }

        void addFour(int four) {
            if (fed < 0 || fed + 4 > MOST_TAPE) {
                return;
            }
            tape[fed] = (byte) (four >> 24);
            tape[fed + 1] = (byte) (four >> 16);
            tape[fed + 2] = (byte) (four >> 8);
            tape[fed + 3] = (byte) four;
            fed += 4;
        }

        void open(int n) {
            length = Math.max(0, Math.min(n, MOST_TAPE));
            next = 0;
            fault = 0;
            faultAt = NONE;
            step();
        }

        private int signAt(int place) {
            return place >= 0 && place < length ? tape[place] & 255 : 0;
        }

        void step() {
            while (next < length && (signAt(next) == 10 || signAt(next) == 32)) {
                next++;
            }
            start = next;
            key = NONE;
            int c = signAt(next);
            if (next >= length) {
                kind = AT_END;
            } else if (isLetter(c)) {
                wordToken();
            } else if (isDigit(c)) {
                numberToken();
            } else {
                kind = c == ';' || c == '<' || c == '>' || c == '=' ? SIGN : NO_KIND;
                sign = c;
                next++;
            }
        }

        private void wordToken() {
            kind = WORD;
            word = 0;
            while (next < length && isLetter(signAt(next))) {
                word = next - start < 8 ? withLetter(word, signAt(next)) : LONG_WORD;
                next++;
            }
            key = reservedNumber(word);
        }

        private void numberToken() {
            value = 0;
            while (next < length && isDigit(signAt(next))) {
                value = next - start < 4 ? value * 10 + (signAt(next) - '0') : 0;
                next++;
            }
            kind = next - start > 4 ? NO_KIND : NUMBER;
        }

        private static boolean isLetter(int c) {
            return c >= 'a' && c <= 'z';
        }

        private static boolean isDigit(int c) {
            return c >= '0' && c <= '9';
        }

        private int reservedNumber(long code) {
            for (int number = 0; number < RESERVED_WORDS; number++) {
                if (reserved[number] == code) {
                    return number;
                }
            }
            return NONE;
        }

        boolean atEnd() {
            return kind == AT_END;
        }

        boolean fail(int newFault) {
            fault = newFault;
            faultAt = start;
            return false;
        }

        boolean cannotStand() {
            return fail(kind == NO_KIND ? NO_TOKEN : CANNOT_STAND);
        }

        boolean isName() {
            return kind == WORD && key == NONE && word != LONG_WORD;
        }

        boolean takeWord(int number) {
            if (key != number) {
                return cannotStand();
            }
            step();
            return true;
        }

        boolean takeNumber(int least, int most) {
            if (kind != NUMBER) {
                return cannotStand();
            }
            if (value < least || value > most) {
                return fail(WRONG_NUMBER);
            }
            taken = value;
            step();
            return true;
        }

        boolean takeStop() {
            if (kind != SIGN || sign != ';') {
                return cannotStand();
            }
            step();
            return true;
        }

        boolean takeCompares() {
            if (kind != SIGN || sign == ';') {
                return cannotStand();
            }
            taken = sign;
            step();
            return true;
        }

        /** The BOY who is named here, or NONE and a FAULT; the NAME is not stepped over. */
        int boyHere(Camp camp) {
            if (!isName()) {
                cannotStand();
                return NONE;
            }
            int boy = camp.named(word);
            if (boy == NONE) {
                fail(WRONG_NAME);
            }
            return boy;
        }
    }

    private static final class CampReader {
        private final Text text;
        final Camp draft = new Camp();
        private boolean fieldTold = false;
        private boolean oddsTold = false;

        CampReader(Text text) {
            this.text = text;
        }

        boolean takeIn(int n) {
            draft.empty();
            fieldTold = false;
            oddsTold = false;
            text.open(n);
            boolean well = true;
            for (int part = 0; part <= MOST_TAPE && well && !text.atEnd(); part++) {
                switch (text.key) {
                    case FIELD:
                        well = takeField();
                        break;
                    case ODDS:
                        well = takeOdds();
                        break;
                    case BOY:
                        well = takeBoy();
                        break;
                    case QUARREL:
                        well = takeQuarrel();
                        break;
                    default:
                        well = text.cannotStand();
                }
            }
            return well;
        }

        private boolean takeField() {
            if (fieldTold || draft.boys > 0) {
                return text.fail(TOLD_ALREADY);
            }
            fieldTold = true;
            text.step();
            if (!text.takeNumber(1, 6)) {
                return false;
            }
            draft.wide = text.taken;
            if (!text.takeWord(BY) || !text.takeNumber(1, 6)) {
                return false;
            }
            draft.high = text.taken;
            return text.takeStop();
        }

        private boolean takeOdds() {
            if (oddsTold) {
                return text.fail(TOLD_ALREADY);
            }
            oddsTold = true;
            text.step();
            if (!text.takeNumber(0, MOST_ODDS)) {
                return false;
            }
            draft.odds = text.taken;
            return text.takeStop();
        }

        private boolean takeBoy() {
            if (draft.boys >= MOST_BOYS) {
                return text.fail(ONE_MORE);
            }
            text.step();
            if (!text.isName()) {
                return text.cannotStand();
            }
            if (draft.named(text.word) != NONE) {
                return text.fail(WRONG_NAME);
            }
            long name = text.word;
            text.step();
            if (!text.takeWord(AT) || !text.takeNumber(0, draft.wide * draft.high - 1)) {
                return false;
            }
            int cell = text.taken;
            if (!text.takeWord(PRIDE) || !text.takeNumber(1, MOST_PRIDE)) {
                return false;
            }
            int pride = text.taken;
            int soft = takePerhaps(SOFT, Camp.USUAL_SOFT);
            int ears = soft == NONE ? NONE : takePerhaps(EARS, Camp.USUAL_EARS);
            if (ears == NONE || !text.takeStop()) {
                return false;
            }
            draft.addBoy(name, cell, pride, soft, ears);
            return true;
        }

        /** NONE if there is a FAULT. */
        private int takePerhaps(int word, int without) {
            if (text.key != word) {
                return without;
            }
            text.step();
            return text.takeNumber(0, 9) ? text.taken : NONE;
        }

        private boolean takeQuarrel() {
            if (draft.quarrels >= MOST_QUARRELS) {
                return text.fail(ONE_MORE);
            }
            text.step();
            int one = text.boyHere(draft);
            if (one == NONE) {
                return false;
            }
            text.step();
            int other = text.boyHere(draft);
            if (other == NONE) {
                return false;
            }
            if (one == other) {
                return text.fail(TOLD_ALREADY);
            }
            text.step();
            if (!text.takeWord(GRUDGE) || !text.takeNumber(0, MOST_GRUDGE)) {
                return false;
            }
            int grudge = text.taken;
            if (!text.takeStop()) {
                return false;
            }
            draft.addQuarrel(one, other, grudge);
            return true;
        }
    }

    /** WEEKS, a line for each STEP and each end. */
    private static final class Weeks {
        boolean there = false;
        int lines = 0;
        int steps = 0;
        /** The number of its RESERVED word. */
        final int[] kind = new int[MOST_LINES];
        final int[] a = new int[MOST_LINES];
        final int[] b = new int[MOST_LINES];
        final int[] c = new int[MOST_LINES];
        /** Of a when, loop: where its end is; of an end: where it began. */
        final int[] mate = new int[MOST_LINES];

        void drop() {
            there = false;
            lines = 0;
            steps = 0;
        }

        void copy(Weeks from) {
            if (from == null) {
                return;
            }
            there = from.there;
            lines = from.lines;
            steps = from.steps;
            System.arraycopy(from.kind, 0, kind, 0, MOST_LINES);
            System.arraycopy(from.a, 0, a, 0, MOST_LINES);
            System.arraycopy(from.b, 0, b, 0, MOST_LINES);
            System.arraycopy(from.c, 0, c, 0, MOST_LINES);
            System.arraycopy(from.mate, 0, mate, 0, MOST_LINES);
        }

        boolean hasLine(int line) {
            return line >= 0 && line < lines && lines <= MOST_LINES;
        }

        void addLine(int newKind) {
            if (lines >= 0 && lines < MOST_LINES) {
                kind[lines] = newKind;
                a[lines] = 0;
                b[lines] = 0;
                c[lines] = 0;
                mate[lines] = lines;
                lines++;
            }
        }

        void fill(int newA, int newB, int newC) {
            int line = lines - 1;
            if (hasLine(line)) {
                a[line] = newA;
                b[line] = newB;
                c[line] = newC;
            }
        }

        void join(int beginning, int end) {
            if (hasLine(beginning) && hasLine(end)) {
                mate[beginning] = end;
                mate[end] = beginning;
            }
        }
    }

    private static final class WeeksReader {
        private final Text text;
        final Weeks draft = new Weeks();
        private final int[] begun = new int[MOST_WITHIN];
        private int depth = 0;

        WeeksReader(Text text) {
            this.text = text;
        }

        boolean takeIn(int n, Camp camp) {
            draft.drop();
            draft.there = true;
            depth = 0;
            text.open(n);
            boolean well = true;
            for (int line = 0; line <= MOST_WEEKS && well && !text.atEnd(); line++) {
                int word = text.key;
                if (word == END) {
                    well = takeEnd();
                } else {
                    well = beginStep(word) && takeRest(word, camp) && text.takeStop();
                }
            }
            return well && (depth == 0 || text.cannotStand());
        }

        private boolean beginStep(int word) {
            boolean block = word == WHEN || word == LOOP;
            if (!isStep(word)) {
                return text.cannotStand();
            }
            if (draft.steps >= MOST_STEPS) {
                return text.fail(ONE_MORE);
            }
            if (block && depth >= MOST_WITHIN) {
                return text.fail(TOO_DEEP);
            }
            text.step();
            draft.addLine(word);
            draft.steps++;
            if (block && depth >= 0 && depth < MOST_WITHIN) {
                begun[depth] = draft.lines - 1;
                depth++;
            }
            return true;
        }

        private static boolean isStep(int word) {
            return word == QUARREL || word == LOOP || word == STOP || word >= MINUTE && word <= WHEN;
        }

        private boolean takeEnd() {
            if (depth < 1 || depth > MOST_WITHIN) {
                return text.cannotStand();
            }
            text.step();
            draft.addLine(END);
            depth--;
            draft.join(begun[depth], draft.lines - 1);
            return text.takeStop();
        }

        private boolean takeRest(int word, Camp camp) {
            switch (word) {
                case MINUTE: return takeOne(1, 60);
                case LOOP: return takeOne(1, 99);
                case QUARREL: return takePair(camp);
                case YIELD: return takeBoy(camp);
                case PITCH: return takeBoyAndCell(camp);
                case WHEN: return takeTest(camp);
                default: return true;
            }
        }

        private boolean takeOne(int least, int most) {
            if (!text.takeNumber(least, most)) {
                return false;
            }
            draft.fill(text.taken, 0, 0);
            return true;
        }

        private boolean takePair(Camp camp) {
            int one = text.boyHere(camp);
            if (one == NONE) {
                return false;
            }
            text.step();
            int other = text.boyHere(camp);
            if (other == NONE) {
                return false;
            }
            text.step();
            if (!text.takeNumber(0, MOST_GRUDGE)) {
                return false;
            }
            draft.fill(one, other, text.taken);
            return true;
        }

        private boolean takeBoy(Camp camp) {
            int boy = text.boyHere(camp);
            if (boy == NONE) {
                return false;
            }
            text.step();
            draft.fill(boy, 0, 0);
            return true;
        }

        private boolean takeBoyAndCell(Camp camp) {
            int boy = text.boyHere(camp);
            if (boy == NONE) {
                return false;
            }
            text.step();
            if (!text.takeNumber(0, camp.wide * camp.high - 1)) {
                return false;
            }
            draft.fill(boy, text.taken, 0);
            return true;
        }

        private boolean takeTest(Camp camp) {
            int test = text.key;
            if (test != UP && test != OPEN && test != NOW) {
                return text.cannotStand();
            }
            text.step();
            if (test == UP) {
                int boy = text.boyHere(camp);
                if (boy == NONE) {
                    return false;
                }
                text.step();
                draft.fill(test, boy, 0);
                return true;
            }
            if (!text.takeCompares()) {
                return false;
            }
            int compares = text.taken;
            if (!text.takeNumber(0, test == OPEN ? MOST_QUARRELS : LAST_MINUTE)) {
                return false;
            }
            draft.fill(test, compares, text.taken);
            return true;
        }
    }

    /** One run of WEEKS through a CAMP. */
    private static final class Life {
        int steps = 0;
        int missed = 0;
        int minutes = 0;
        int over = 0;
        int fresh = 0;
        boolean left = false;
        private int draw = 0;
        /** How many rounds of each loop are still to come. */
        private final int[] rounds = new int[MOST_LINES];

        void run(Camp camp, Weeks weeks, int seed) {
            steps = 0;
            missed = 0;
            minutes = 0;
            over = 0;
            fresh = 0;
            left = false;
            draw = seed;
            int line = 0;
            for (int move = 0; move < MOST_MOVES && weeks.hasLine(line); move++) {
                if (weeks.kind[line] == END) {
                    line = behindEnd(weeks, line);
                } else if (steps >= MOST_LIVED) {
                    left = true;
                    line = NONE;
                } else {
                    steps++;
                    line = behindStep(camp, weeks, line);
                }
            }
        }

        private int behindEnd(Weeks weeks, int end) {
            int beginning = weeks.hasLine(end) ? weeks.mate[end] : NONE;
            if (!weeks.hasLine(beginning) || weeks.kind[beginning] != LOOP) {
                return end + 1;
            }
            rounds[beginning]--;
            return rounds[beginning] > 0 ? beginning + 1 : end + 1;
        }

        /** NONE behind a stop. */
        private int behindStep(Camp camp, Weeks weeks, int line) {
            if (!weeks.hasLine(line)) {
                return NONE;
            }
            int a = weeks.a[line];
            int b = weeks.b[line];
            int c = weeks.c[line];
            switch (weeks.kind[line]) {
                case STOP:
                    return NONE;
                case LOOP:
                    rounds[line] = a;
                    return line + 1;
                case WHEN:
                    return holds(camp, a, b, c) ? line + 1 : weeks.mate[line] + 1;
                case MINUTE:
                    return behind(line, letPass(camp, a));
                case DAWN:
                    return behind(line, newDay(camp));
                case QUARREL:
                    return behind(line, fallOut(camp, a, b, c));
                case YIELD:
                    return behind(line, camp.hasBoy(a) && camp.giveIn(a) > 0);
                case PITCH:
                    return behind(line, moveTo(camp, a, b));
                case ANY:
                    return behind(line, drawQuarrel(camp));
                default:
                    return NONE;
            }
        }

        private int behind(int line, boolean happened) {
            if (!happened) {
                missed++;
            }
            return line + 1;
        }

        private static boolean holds(Camp camp, int test, int boyOrSign, int number) {
            if (test == UP) {
                return camp.hasBoy(boyOrSign) && camp.isUp(boyOrSign);
            }
            int told = test == OPEN ? Integer.bitCount(camp.openSet()) : camp.minute;
            if (boyOrSign == '<') {
                return told < number;
            }
            return boyOrSign == '>' ? told > number : told == number;
        }

        private boolean letPass(Camp camp, int many) {
            if (camp.minute + many > LAST_MINUTE) {
                return false;
            }
            over += camp.pass(many);
            minutes += many;
            return true;
        }

        private static boolean newDay(Camp camp) {
            int ahead = camp.minute;
            return camp.strike() > 0 || ahead > 0;
        }

        private boolean fallOut(Camp camp, int one, int other, int grudge) {
            boolean known = camp.hasBoy(one) && camp.hasBoy(other);
            if (!known || one == other || camp.addQuarrel(one, other, grudge) == NONE) {
                return false;
            }
            fresh++;
            return true;
        }

        private static boolean moveTo(Camp camp, int boy, int cell) {
            if (!camp.hasBoy(boy) || camp.cell[boy] == cell) {
                return false;
            }
            camp.place(boy, cell);
            return true;
        }

        private boolean drawQuarrel(Camp camp) {
            if (camp.boys < 1) {
                return false;
            }
            int one = drawBy(camp.boys);
            int other = drawBy(camp.boys);
            int grudge = drawBy(20);
            return fallOut(camp, one, other, grudge);
        }

        private int drawBy(int n) {
            draw = (draw * 3187 + 11411) % 65536;
            return n < 1 ? 0 : draw / 8 % n;
        }
    }
}
