import java.util.Arrays;

public final class GivenUp {
    public static final int NONE = -1;

    private static final int SUITORS = 4;
    private static final int MAIDS = 4;
    private static final int THINGS = 12;
    private static final int AFTERS = 12;
    private static final int LAST_WEEK = 999;
    private static final int FAR = 99;
    private static final int MUCH = 99;
    private static final int HIGHEST_BAR = 999;
    private static final int NEVER_DEEP = 99;
    private static final int LAST_SEED = 9999;
    private static final int MOST_SEEDS = 20;
    private static final int TRAYS = 4;
    private static final int SORTS = 4;
    private static final int PLACES = 60;
    private static final int TAPE = 900;
    private static final int FED_AT_ONCE = 20;
    private static final int YEARS_TEXT = 300;
    private static final int STEPS = 30;
    // Each STEP may have an end of its own.
    private static final int LINES = 60;
    private static final int NESTED = 3;
    private static final int STEPS_DONE = 300;
    // Far above what 300 STEPS and the ends of 300 loops of 99 rounds can need.
    private static final int TURNS = 100000;
    private static final int MARKS = 3;
    // What is kept of the latest live(), each under the number by which lived() tells it.
    private static final int LIVED = 5;
    private static final int MISSED = 0;
    private static final int WEEKS = 1;
    private static final int GIFTS = 2;
    private static final int WEDDINGS = 3;
    private static final int CUT = 4;

    private static final int WELL = 0;
    private static final int BAD_NUMBER = 1;
    private static final int NO_TRAY = 2;
    private static final int NO_PLACE = 3;
    private static final int FULL = 4;
    private static final int BAD_IN_TRAY = 5;
    private static final int NO_SUCH = 6;
    private static final int CANNOT = 7;
    private static final int UNLIKE = 8;
    private static final int FAULTY = 9;

    private static final int NO_TOKEN = 1;
    private static final int MISPLACED = 2;
    private static final int WRONG_NAME = 3;
    private static final int WRONG_NUMBER = 4;
    private static final int WRONG_AFTER_OR_AGAIN = 5;
    private static final int TOO_MANY = 6;
    private static final int TOO_DEEP = 7;

    // The words that are no NAMES, each with a blank behind it; a word's place in this row is its kind of TOKEN.
    private static final String OWN_WORDS = "suitor age cows maid bar rises mother thing of worth says to after likes weekly fair give any week wed with back feign when heard yes bare loop end stop ";
    private static final int OWN = 30;
    private static final int SUITOR = 0;
    private static final int AGE = 1;
    private static final int COWS = 2;
    private static final int MAID = 3;
    private static final int BAR = 4;
    private static final int RISES = 5;
    private static final int MOTHER = 6;
    private static final int THING = 7;
    private static final int OF = 8;
    private static final int WORTH = 9;
    private static final int SAYS = 10;
    private static final int TO = 11;
    private static final int AFTER = 12;
    private static final int LIKES = 13;
    private static final int WEEKLY = 14;
    private static final int FAIR = 15;
    private static final int GIVE = 16;
    private static final int ANY = 17;
    private static final int WEEK = 18;
    private static final int WED = 19;
    private static final int WITH = 20;
    private static final int BACK = 21;
    private static final int FEIGN = 22;
    private static final int WHEN = 23;
    private static final int HEARD = 24;
    private static final int YES = 25;
    private static final int BARE = 26;
    private static final int LOOP = 27;
    private static final int END = 28;
    private static final int STOP = 29;
    private static final int NAME = 30;
    private static final int LONG_WORD = 31;
    private static final int NUMBER = 32;
    private static final int SEMICOLON = 33;
    private static final int LESS = 34;
    private static final int MORE = 35;
    private static final int EQUAL = 36;
    private static final int TEXT_END = 37;
    private static final int UNREADABLE = 38;

    // A word is kept as a number to this base, its letters counted from 1, so that no two words are one number.
    private static final int LETTERS = 27;
    private static final int NAME_LETTERS = 8;
    private static final int NUMBER_DIGITS = 4;
    // Where the NAMES of SUITORS, MAIDS and THINGS begin in the row of all NAMES.
    private static final int MAID_NAMES = SUITORS;
    private static final int THING_NAMES = SUITORS + MAIDS;
    private static final int NAMES = SUITORS + MAIDS + THINGS;

    private final Tray[] trays = new Tray[TRAYS];
    private final Text text = new Text();
    private final ValleyReader valleyReader = new ValleyReader(text);
    private final YearsReader yearsReader = new YearsReader(text);
    private final Valley[] marks = new Valley[MARKS];
    private final Plan plan = new Plan();
    private final Village matches = new Village(plan);
    private final Courtship courtship = new Courtship();
    private final Life life = new Life();
    private final long[] orderRow = new long[1 << THINGS];
    private final int[] latest = new int[LIVED];
    private boolean hasLived = false;
    private Valley now = new Valley();
    private Valley spare = new Valley();
    private int marked = 0;
    private int status = WELL;
    private long fractionTop = 0;
    private long fractionBottom = 1;
    private int faultKind = NONE;
    private int faultPlace = NONE;

    public GivenUp() {
        for (int i = 0; i < TRAYS; i++) {
            trays[i] = new Tray();
        }
        for (int i = 0; i < MARKS; i++) {
            marks[i] = new Valley();
        }
    }

    public int status() {
        return status;
    }

    public long top() {
        return fractionTop;
    }

    public long bottom() {
        return fractionBottom;
    }

    // ---- TRAYS

    public boolean tray(int tray, int sort, int many) {
        if (isOut(tray, TRAYS) || isOut(sort, SORTS) || many < 0 || many > PLACES) {
            return deny(BAD_NUMBER);
        }
        trays[tray].set(sort, many);
        return allow();
    }

    public boolean write(int tray, int place, long v) {
        int refused = trayStatus(tray, place);
        if (refused != WELL) {
            return deny(refused);
        }
        trays[tray].put(place, v);
        return allow();
    }

    public long read(int tray, int place) {
        int refused = trayStatus(tray, place);
        if (refused != WELL) {
            return refuse(refused);
        }
        status = WELL;
        return trays[tray].row[place];
    }

    public boolean pour(int from, int place, int to, int at, int many) {
        if (isOut(from, TRAYS) || isOut(to, TRAYS) || place < 0 || at < 0 || many < 0) {
            return deny(BAD_NUMBER);
        }
        Tray source = trays[from];
        Tray goal = trays[to];
        if (!source.there || !goal.there) {
            return deny(NO_TRAY);
        }
        if (source.sort != goal.sort) {
            return deny(UNLIKE);
        }
        // Taken away, not added up, so that no sum can wrap round.
        if (many > source.many || place > source.many - many || many > goal.many || at > goal.many - many) {
            return deny(NO_PLACE);
        }
        System.arraycopy(source.row, place, goal.row, at, many);
        return allow();
    }

    // ---- texts

    public int feed(int a, int b, int c, int d, int e) {
        if (text.fed > TAPE - FED_AT_ONCE) {
            return NONE;
        }
        text.append(a);
        text.append(b);
        text.append(c);
        text.append(d);
        text.append(e);
        return text.fed;
    }

    public int valley(int n) {
        if (n < 0 || n > text.fed) {
            return refuse(BAD_NUMBER);
        }
        boolean taken = valleyReader.take(spare, n);
        keepFault();
        if (!taken) {
            return refuse(FAULTY);
        }
        Valley old = now;
        now = spare;
        spare = old;
        return answer(now.things);
    }

    public int years(int n) {
        if (n < 0 || n > text.fed || n > YEARS_TEXT) {
            return refuse(BAD_NUMBER);
        }
        boolean taken = yearsReader.take(spare.years, now, n);
        keepFault();
        if (!taken) {
            return refuse(FAULTY);
        }
        now.years.copy(spare.years);
        return answer(now.years.steps);
    }

    public int fault(int what) {
        if (what == 0) {
            return faultKind;
        }
        return what == 1 ? faultPlace : NONE;
    }

    public int told(int what) {
        switch (what) {
            case 0: return answer(now.suitors);
            case 1: return answer(now.maids);
            case 2: return answer(now.things);
            case 3: return answer(now.afters);
            case 4: return answer(now.weekly);
            case 5: return answer(now.fair);
            case 6: return answer(now.deeds.week);
            case 7: return answer(now.couples());
            case 8: return answer(now.deeds.given);
            case 9: return answer(now.deeds.feigned);
            default: return refuse(BAD_NUMBER);
        }
    }

    public int suitor(int suitor, int what) {
        if (isOut(suitor, now.suitors)) {
            return refuse(BAD_NUMBER);
        }
        switch (what) {
            case 0: return answer(now.age[suitor]);
            case 1: return answer(now.deeds.cows[suitor]);
            case 2: return answer(now.deeds.thisWeek[suitor]);
            case 3: return answer(now.left(suitor));
            case 4: return answer(now.loss(suitor));
            case 5: return answerOrNone(now.deeds.maidOf[suitor]);
            case 6: return answer(now.goods(suitor));
            default: return refuse(BAD_NUMBER);
        }
    }

    public int maid(int maid, int what) {
        if (isOut(maid, now.maids)) {
            return refuse(BAD_NUMBER);
        }
        switch (what) {
            case 0: return answer(now.bars[maid]);
            case 1: return answer(now.rises[maid]);
            case 2: return answer(now.mother[maid]);
            case 3: return answer(now.barNow(maid));
            case 4: return answerOrNone(now.deeds.suitorOf[maid]);
            default: return refuse(BAD_NUMBER);
        }
    }

    public int thing(int thing, int what) {
        if (isOut(thing, now.things)) {
            return refuse(BAD_NUMBER);
        }
        switch (what) {
            case 0: return answer(now.of[thing]);
            case 1: return answer(now.worth[thing]);
            case 2: return answer(now.stateOf(thing));
            case 3: return answer(now.after[thing]);
            case 4: return answer(now.deep(thing));
            default: return refuse(BAD_NUMBER);
        }
    }

    public int says(int thing, int maid) {
        if (isOut(thing, now.things) || isOut(maid, now.maids)) {
            return refuse(BAD_NUMBER);
        }
        return answer(now.word(thing, maid));
    }

    public int likes(int suitor, int maid) {
        if (isNoPair(suitor, maid)) {
            return refuse(BAD_NUMBER);
        }
        return answer(now.liking[suitor * MAIDS + maid]);
    }

    // ---- giving, wedding

    public int give(int thing) {
        if (isOut(thing, now.things)) {
            return refuse(BAD_NUMBER);
        }
        if (!now.giveUp(thing)) {
            return refuse(CANNOT);
        }
        return answer(now.loss(now.of[thing]));
    }

    public int feign(int thing) {
        if (isOut(thing, now.things)) {
            return refuse(BAD_NUMBER);
        }
        if (!now.pretend(thing)) {
            return refuse(CANNOT);
        }
        return answer(now.feignedBy(now.of[thing]));
    }

    public int found(int thing) {
        if (isOut(thing, now.things)) {
            return refuse(BAD_NUMBER);
        }
        if (!holds(now.deeds.feigned, thing)) {
            return refuse(CANNOT);
        }
        now.deeds.feigned &= ~(1 << thing);
        return answer(now.feignedBy(now.of[thing]));
    }

    public int may(int suitor) {
        if (isOut(suitor, now.suitors)) {
            return refuse(BAD_NUMBER);
        }
        return answer(now.givable(suitor));
    }

    public int week() {
        if (!now.passWeek()) {
            return refuse(FULL);
        }
        return answer(now.deeds.week);
    }

    public int heard(int suitor, int maid) {
        if (isNoPair(suitor, maid)) {
            return refuse(BAD_NUMBER);
        }
        return answer(now.hears(suitor, maid));
    }

    public int yes(int suitor, int maid) {
        if (isNoPair(suitor, maid)) {
            return refuse(BAD_NUMBER);
        }
        return answer(now.isWilling(suitor, maid) ? 1 : 0);
    }

    public int lacks(int suitor, int maid) {
        if (isNoPair(suitor, maid)) {
            return refuse(BAD_NUMBER);
        }
        return answer(now.barNow(maid) - now.hears(suitor, maid));
    }

    public int wed(int suitor, int maid) {
        if (isNoPair(suitor, maid)) {
            return refuse(BAD_NUMBER);
        }
        if (!now.marry(suitor, maid)) {
            return refuse(CANNOT);
        }
        return answer(now.deeds.cows[suitor]);
    }

    public int back(int thing) {
        if (isOut(thing, now.things)) {
            return refuse(BAD_NUMBER);
        }
        if (!now.fetch(thing)) {
            return refuse(CANNOT);
        }
        return answer(now.deeds.cows[now.of[thing]]);
    }

    public int toFair() {
        return answer(now.weeksToFair());
    }

    public int bare(int suitor) {
        if (isOut(suitor, now.suitors)) {
            return refuse(BAD_NUMBER);
        }
        return answer(now.isBare(suitor) ? 1 : 0);
    }

    public int wouldHave(int maid) {
        if (isOut(maid, now.maids)) {
            return refuse(BAD_NUMBER);
        }
        return answerOrNone(now.chosenBy(maid));
    }

    public int proud(int maid) {
        if (isOut(maid, now.maids)) {
            return refuse(BAD_NUMBER);
        }
        return answer(now.proudTo(maid));
    }

    public int dearest(int suitor, int maid) {
        if (isNoPair(suitor, maid)) {
            return refuse(BAD_NUMBER);
        }
        return answerOrNone(now.bestFor(suitor, maid));
    }

    public boolean share(int suitor, int maid) {
        if (isNoPair(suitor, maid)) {
            return deny(BAD_NUMBER);
        }
        int all = now.saying(now.goods(suitor), maid);
        if (all <= 0) {
            return deny(NO_SUCH);
        }
        tellFraction(now.hears(suitor, maid), all);
        return allow();
    }

    public boolean like(int suitor, int maid, int much) {
        if (isNoPair(suitor, maid) || much < 0 || much > MUCH) {
            return deny(BAD_NUMBER);
        }
        now.liking[suitor * MAIDS + maid] = much;
        return allow();
    }

    public boolean bar(int maid, int much) {
        if (isOut(maid, now.maids) || much < 0 || much > HIGHEST_BAR) {
            return deny(BAD_NUMBER);
        }
        now.bars[maid] = much;
        return allow();
    }

    // ---- plans

    public int least(int suitor, int maid, int weeks) {
        int refused = planStatus(suitor, maid, weeks);
        return refused != WELL ? refuse(refused) : answer(plan.worth);
    }

    public int leastSet(int suitor, int maid, int weeks) {
        int refused = planStatus(suitor, maid, weeks);
        return refused != WELL ? refuse(refused) : answer(plan.set);
    }

    public int fewest(int suitor, int maid, int weeks) {
        int refused = planStatus(suitor, maid, weeks);
        return refused != WELL ? refuse(refused) : answer(plan.fewest);
    }

    public int soonest(int suitor, int maid) {
        int refused = planStatus(suitor, maid, FAR);
        return refused != WELL ? refuse(refused) : answer(plan.soonest);
    }

    public int most(int suitor, int maid, int weeks) {
        if (isNoPair(suitor, maid) || isNoTime(weeks)) {
            return refuse(BAD_NUMBER);
        }
        if (now.isWed(suitor)) {
            return refuse(CANNOT);
        }
        plan.make(now, suitor, maid, weeks);
        return answer(plan.most);
    }

    public int rivals(int a, int b, int maid) {
        if (isNoPair(a, maid) || isNoPair(b, maid) || a == b) {
            return refuse(BAD_NUMBER);
        }
        if (now.isWed(a) || now.isWed(b) || now.isTaken(maid)) {
            return refuse(CANNOT);
        }
        plan.make(now, a, maid, FAR);
        int soonA = plan.isFound() ? plan.soonest : FAR + 1;
        plan.make(now, b, maid, FAR);
        int soonB = plan.isFound() ? plan.soonest : FAR + 1;
        if (soonA > FAR && soonB > FAR) {
            return refuse(NO_SUCH);
        }
        if (soonA != soonB) {
            return answer(soonA < soonB ? a : b);
        }
        if (now.age[a] != now.age[b]) {
            return answer(now.age[a] > now.age[b] ? a : b);
        }
        return answer(a < b ? a : b);
    }

    public int cheapest(int suitor, int weeks) {
        if (isOut(suitor, now.suitors) || isNoTime(weeks)) {
            return refuse(BAD_NUMBER);
        }
        if (now.isWed(suitor)) {
            return refuse(CANNOT);
        }
        int best = NONE;
        int bestWorth = 0;
        for (int maid = 0; maid < now.maids; maid++) {
            if (canPlan(suitor, maid, weeks) && (best < 0 || plan.worth < bestWorth)) {
                best = maid;
                bestWorth = plan.worth;
            }
        }
        return answerOrNone(best);
    }

    public int within(int suitor, int weeks) {
        if (isOut(suitor, now.suitors) || isNoTime(weeks)) {
            return refuse(BAD_NUMBER);
        }
        if (now.isWed(suitor)) {
            return refuse(CANNOT);
        }
        int set = 0;
        for (int maid = 0; maid < now.maids; maid++) {
            if (canPlan(suitor, maid, weeks)) {
                set |= 1 << maid;
            }
        }
        return answer(set);
    }

    public int village(int weeks, int what) {
        if (isNoTime(weeks) || what < 0 || what > 1) {
            return refuse(BAD_NUMBER);
        }
        matches.settle(now, weeks);
        return answer(what == 0 ? matches.couples : matches.loss);
    }

    public int villager(int weeks, int suitor) {
        if (isNoTime(weeks) || isOut(suitor, now.suitors)) {
            return refuse(BAD_NUMBER);
        }
        matches.settle(now, weeks);
        return answerOrNone(matches.chosen[suitor]);
    }

    // ---- who keeps whom

    public int bolts(int tray) {
        int refused = couplesStatus(tray);
        if (refused != WELL) {
            return refuse(refused);
        }
        courtship.seekBolters(now);
        return answer(courtship.bolting);
    }

    public int bolter(int tray, int what) {
        if (what < 0 || what > 1) {
            return refuse(BAD_NUMBER);
        }
        int refused = couplesStatus(tray);
        if (refused != WELL) {
            return refuse(refused);
        }
        courtship.seekBolters(now);
        return answerOrNone(what == 0 ? courtship.firstSuitor : courtship.firstMaid);
    }

    public int asked(int suitor) {
        if (isOut(suitor, now.suitors)) {
            return refuse(BAD_NUMBER);
        }
        courtship.ask(now);
        return answerOrNone(courtship.maidOf[suitor]);
    }

    public int refusals() {
        courtship.ask(now);
        return answer(courtship.refused);
    }

    public int keep(int tray) {
        int refused = rowStatus(tray);
        if (refused != WELL) {
            return refuse(refused);
        }
        courtship.ask(now);
        int kept = 0;
        for (int suitor = 0; suitor < now.suitors; suitor++) {
            int maid = courtship.maidOf[suitor];
            trays[tray].put(suitor, maid);
            kept += maid < 0 ? 0 : 1;
        }
        return answer(kept);
    }

    // ---- what was

    public long orders(int suitor) {
        if (isOut(suitor, now.suitors)) {
            return refuse(BAD_NUMBER);
        }
        status = WELL;
        return countOrders(now.goods(suitor) & now.deeds.given);
    }

    public int ends(int suitor, int what) {
        if (isOut(suitor, now.suitors) || what < 0 || what > 1) {
            return refuse(BAD_NUMBER);
        }
        int given = now.goods(suitor) & now.deeds.given;
        return answer(what == 0 ? now.firsts(given) : now.lasts(given));
    }

    public int needs(int thing) {
        if (isOut(thing, now.things)) {
            return refuse(BAD_NUMBER);
        }
        return answer(now.need[thing]);
    }

    public int never(int suitor) {
        if (isOut(suitor, now.suitors)) {
            return refuse(BAD_NUMBER);
        }
        return answer(now.goods(suitor) & now.hopeless);
    }

    public long ways(int suitor) {
        if (isOut(suitor, now.suitors)) {
            return refuse(BAD_NUMBER);
        }
        status = WELL;
        return countOrders(now.goods(suitor) & ~now.hopeless);
    }

    public int lies(int suitor, int maid, int what) {
        if (isNoPair(suitor, maid) || what < 0 || what > 1) {
            return refuse(BAD_NUMBER);
        }
        int feigned = now.goods(suitor) & now.deeds.feigned;
        return answer(what == 0 ? Integer.bitCount(feigned) : now.saying(feigned, maid));
    }

    public int cheats(int maid) {
        if (isOut(maid, now.maids)) {
            return refuse(BAD_NUMBER);
        }
        int set = 0;
        for (int suitor = 0; suitor < now.suitors; suitor++) {
            int honest = now.saying(now.goods(suitor) & now.deeds.given, maid);
            if (now.isWilling(suitor, maid) && honest < now.barNow(maid)) {
                set |= 1 << suitor;
            }
        }
        return answer(set);
    }

    // ---- YEARS

    public int live(int seed) {
        if (seed < 0 || seed > LAST_SEED) {
            return refuse(BAD_NUMBER);
        }
        if (!now.years.there) {
            return refuse(NO_SUCH);
        }
        life.run(now, seed);
        System.arraycopy(life.tally, 0, latest, 0, LIVED);
        hasLived = true;
        return answer(life.steps);
    }

    public int lived(int what) {
        if (isOut(what, LIVED)) {
            return refuse(BAD_NUMBER);
        }
        return hasLived ? answer(latest[what]) : refuse(NO_SUCH);
    }

    public boolean mean(int suitor, int seed, int many) {
        if (isOut(suitor, now.suitors) || seed < 0 || many < 1 || many > MOST_SEEDS || seed > LAST_SEED + 1 - many) {
            return deny(BAD_NUMBER);
        }
        if (!now.years.there) {
            return deny(NO_SUCH);
        }
        long sum = 0;
        for (int i = 0; i < many; i++) {
            spare.copy(now);
            life.run(spare, seed + i);
            sum += spare.loss(suitor);
        }
        tellFraction(sum, many);
        return allow();
    }

    // ---- MARKS

    public int mark() {
        if (marked >= MARKS) {
            return refuse(FULL);
        }
        marks[marked].copy(now);
        marked++;
        return answer(marked);
    }

    public int undo() {
        if (marked <= 0) {
            return refuse(NO_SUCH);
        }
        marked--;
        now.copy(marks[marked]);
        return answer(marked);
    }

    private int answer(int v) {
        status = WELL;
        return v;
    }

    /** An answer that is NONE where there is none such. */
    private int answerOrNone(int v) {
        return v < 0 ? refuse(NO_SUCH) : answer(v);
    }

    private int refuse(int why) {
        status = why;
        return NONE;
    }

    private boolean allow() {
        status = WELL;
        return true;
    }

    private boolean deny(int why) {
        status = why;
        return false;
    }

    private static boolean isOut(int number, int many) {
        return number < 0 || number >= many;
    }

    private static boolean isNoTime(int weeks) {
        return weeks < 0 || weeks > FAR;
    }

    private static boolean holds(int set, int member) {
        return (set >> member & 1) != 0;
    }

    private boolean isNoPair(int suitor, int maid) {
        return isOut(suitor, now.suitors) || isOut(maid, now.maids);
    }

    private int trayStatus(int tray, int place) {
        if (isOut(tray, TRAYS)) {
            return BAD_NUMBER;
        }
        if (!trays[tray].there) {
            return NO_TRAY;
        }
        return isOut(place, trays[tray].many) ? NO_PLACE : WELL;
    }

    /** Whether a TRAY has a number for each SUITOR. */
    private int rowStatus(int tray) {
        if (isOut(tray, TRAYS)) {
            return BAD_NUMBER;
        }
        if (!trays[tray].there) {
            return NO_TRAY;
        }
        return trays[tray].many < now.suitors ? NO_PLACE : WELL;
    }

    private int couplesStatus(int tray) {
        int refused = rowStatus(tray);
        if (refused != WELL) {
            return refused;
        }
        return courtship.load(trays[tray], now) ? WELL : BAD_IN_TRAY;
    }

    /** Makes the plan; not WELL where there is none. */
    private int planStatus(int suitor, int maid, int weeks) {
        if (isNoPair(suitor, maid) || isNoTime(weeks)) {
            return BAD_NUMBER;
        }
        if (now.isWed(suitor) || now.isTaken(maid)) {
            return CANNOT;
        }
        plan.make(now, suitor, maid, weeks);
        return plan.isFound() ? WELL : NO_SUCH;
    }

    private boolean canPlan(int suitor, int maid, int weeks) {
        return planStatus(suitor, maid, weeks) == WELL;
    }

    private void keepFault() {
        faultKind = text.fault;
        faultPlace = text.fault == 0 ? NONE : text.faultPlace;
    }

    private void tellFraction(long top, long bottom) {
        long divisor = commonDivisor(top, bottom);
        if (divisor > 0) {
            fractionTop = top / divisor;
            fractionBottom = bottom / divisor;
        }
    }

    private static long commonDivisor(long a, long b) {
        // A hundred rounds are more than two numbers of 64 bits can need.
        for (int i = 0; i < 100 && b != 0; i++) {
            long rest = a % b;
            a = b;
            b = rest;
        }
        return a;
    }

    /** In how many orders the THINGS of a set can be GIVEN one by one. */
    private long countOrders(int set) {
        orderRow[0] = 1;
        for (int part = 1; part <= set && part < orderRow.length; part++) {
            if ((part & ~set) == 0) {
                orderRow[part] = ordersWithin(part);
            }
        }
        return isOut(set, orderRow.length) ? 0 : orderRow[set];
    }

    /** Each order of a part has a last THING; the row knows the orders of what is ahead of that. */
    private long ordersWithin(int part) {
        long sum = 0;
        for (int thing = 0; thing < now.things; thing++) {
            int ahead = part & ~(1 << thing);
            if (ahead != part && (now.after[thing] & ~ahead) == 0) {
                sum += orderRow[ahead];
            }
        }
        return sum;
    }

    private static final class Tray {
        final long[] row = new long[PLACES];
        boolean there = false;
        int sort = 0;
        int many = 0;

        void set(int newSort, int newMany) {
            there = true;
            sort = newSort;
            many = newMany;
            Arrays.fill(row, 0L);
        }

        /** Cuts a number to the sort; the place is known to be there. */
        void put(int place, long v) {
            if (isOut(place, PLACES)) {
                return;
            }
            switch (sort) {
                case 0: row[place] = (byte) v; break;
                case 1: row[place] = (short) v; break;
                case 2: row[place] = (int) v; break;
                default: row[place] = v; break;
            }
        }
    }

    /** The tape, and the TOKENS of a text that is read from it. */
    private static final class Text {
        private final byte[] tape = new byte[TAPE];
        private final long[] own = new long[OWN];
        private int end = 0;
        private int next = 0;
        private int start = 0;
        int fed = 0;
        int kind = TEXT_END;
        int number = 0;
        long name = 0;
        int fault = 0;
        int faultPlace = 0;

        Text() {
            int word = 0;
            for (int i = 0; i < OWN_WORDS.length() && word < OWN; i++) {
                char sign = OWN_WORDS.charAt(i);
                if (sign == ' ') {
                    word++;
                } else {
                    own[word] = own[word] * LETTERS + (sign - 'a' + 1);
                }
            }
        }

        void append(int four) {
            for (int shift = 24; shift >= 0 && fed < TAPE; shift -= 8) {
                tape[fed] = (byte) (four >> shift);
                fed++;
            }
        }

        /** Begins to read the first bytes; the tape counts as empty from now on. */
        void begin(int n) {
            end = Math.min(n, fed);
            fed = 0;
            next = 0;
            fault = 0;
            faultPlace = 0;
            step();
        }

        void step() {
            while (next < end && (tape[next] == 10 || tape[next] == 32)) {
                next++;
            }
            start = next;
            if (next >= end) {
                kind = TEXT_END;
            } else if (!readWord() && !readNumber()) {
                kind = signKind(tape[next]);
                next++;
            }
        }

        private boolean readWord() {
            name = 0;
            while (next < end && tape[next] >= 'a' && tape[next] <= 'z') {
                if (next - start < NAME_LETTERS) {
                    name = name * LETTERS + (tape[next] - 'a' + 1);
                }
                next++;
            }
            kind = next - start > NAME_LETTERS ? LONG_WORD : NAME;
            for (int i = 0; i < OWN && kind == NAME; i++) {
                if (own[i] == name) {
                    kind = i;
                }
            }
            return next > start;
        }

        private boolean readNumber() {
            number = 0;
            while (next < end && tape[next] >= '0' && tape[next] <= '9') {
                if (next - start < NUMBER_DIGITS) {
                    number = number * 10 + (tape[next] - '0');
                }
                next++;
            }
            kind = next - start > NUMBER_DIGITS ? UNREADABLE : NUMBER;
            return next > start;
        }

        private static int signKind(int sign) {
            switch (sign) {
                case ';': return SEMICOLON;
                case '<': return LESS;
                case '>': return MORE;
                case '=': return EQUAL;
                default: return UNREADABLE;
            }
        }

        boolean fail(int why) {
            fault = why;
            faultPlace = start;
            return false;
        }

        boolean misplaced() {
            return fail(kind == UNREADABLE ? NO_TOKEN : MISPLACED);
        }

        boolean skip(int wanted) {
            if (kind != wanted) {
                return misplaced();
            }
            step();
            return true;
        }

        /** A NUMBER from low to high; NONE with a FAULT where none stands. */
        int amount(int low, int high) {
            if (kind != NUMBER) {
                misplaced();
                return NONE;
            }
            if (number < low || number > high) {
                fail(WRONG_NUMBER);
                return NONE;
            }
            int got = number;
            step();
            return got;
        }

        /** A NUMBER behind a word that may be left out. */
        int option(int word, int without, int high) {
            if (kind != word) {
                return without;
            }
            step();
            return amount(0, high);
        }

        /** Which of so many NAMES in a row stands here; NONE with a FAULT where none does. */
        int find(long[] names, int first, int many) {
            if (kind != NAME) {
                misplaced();
                return NONE;
            }
            for (int i = 0; i < many && first + i < names.length; i++) {
                if (names[first + i] == name) {
                    return i;
                }
            }
            fail(WRONG_NAME);
            return NONE;
        }

        int member(long[] names, int first, int many) {
            int found = find(names, first, many);
            if (found >= 0) {
                step();
            }
            return found;
        }

        /** A NAME that none of those in a row is; 0 with a FAULT where it is taken. */
        long newName(long[] names) {
            if (kind != NAME) {
                misplaced();
                return 0;
            }
            for (int i = 0; i < names.length; i++) {
                if (names[i] == name) {
                    fail(WRONG_NAME);
                    return 0;
                }
            }
            long got = name;
            step();
            return got;
        }
    }

    private static final class ValleyReader {
        private final Text in;
        private boolean weeklyTold = false;
        private boolean fairTold = false;

        ValleyReader(Text text) {
            in = text;
        }

        boolean take(Valley v, int n) {
            v.clear();
            weeklyTold = false;
            fairTold = false;
            in.begin(n);
            boolean fine = true;
            for (int part = 0; part < TAPE && fine && in.kind != TEXT_END; part++) {
                switch (in.kind) {
                    case SUITOR: fine = readSuitor(v); break;
                    case MAID: fine = readMaid(v); break;
                    case THING: fine = readThing(v); break;
                    case SAYS: fine = readSays(v); break;
                    case AFTER: fine = readAfter(v); break;
                    case LIKES: fine = readLikes(v); break;
                    case WEEKLY: fine = readWeekly(v); break;
                    case FAIR: fine = readFair(v); break;
                    default: fine = in.misplaced(); break;
                }
            }
            if (fine) {
                v.complete();
            }
            return fine;
        }

        private boolean readSuitor(Valley v) {
            if (v.suitors >= SUITORS) {
                return in.fail(TOO_MANY);
            }
            in.step();
            long name = in.newName(v.names);
            if (name == 0) {
                return false;
            }
            int age = in.option(AGE, 20, MUCH);
            if (age < 0) {
                return false;
            }
            int cows = in.option(COWS, 0, MUCH);
            if (cows < 0 || !in.skip(SEMICOLON)) {
                return false;
            }
            v.names[v.suitors] = name;
            v.age[v.suitors] = age;
            v.deeds.cows[v.suitors] = cows;
            v.suitors++;
            return true;
        }

        private boolean readMaid(Valley v) {
            if (v.maids >= MAIDS) {
                return in.fail(TOO_MANY);
            }
            in.step();
            long name = in.newName(v.names);
            if (name == 0 || !in.skip(BAR)) {
                return false;
            }
            int bar = in.amount(0, HIGHEST_BAR);
            if (bar < 0) {
                return false;
            }
            int rises = in.option(RISES, 0, 20);
            if (rises < 0) {
                return false;
            }
            int mother = in.option(MOTHER, 0, 9);
            if (mother < 0 || !in.skip(SEMICOLON)) {
                return false;
            }
            v.names[MAID_NAMES + v.maids] = name;
            v.bars[v.maids] = bar;
            v.rises[v.maids] = rises;
            v.mother[v.maids] = mother;
            v.maids++;
            return true;
        }

        private boolean readThing(Valley v) {
            if (v.things >= THINGS) {
                return in.fail(TOO_MANY);
            }
            in.step();
            long name = in.newName(v.names);
            if (name == 0 || !in.skip(OF)) {
                return false;
            }
            int of = in.member(v.names, 0, v.suitors);
            if (of < 0 || !in.skip(WORTH)) {
                return false;
            }
            int worth = in.amount(0, MUCH);
            if (worth < 0 || !in.skip(SEMICOLON)) {
                return false;
            }
            v.addThing(name, of, worth);
            return true;
        }

        private boolean readSays(Valley v) {
            in.step();
            int thing = in.member(v.names, THING_NAMES, v.things);
            if (thing < 0 || !in.skip(TO)) {
                return false;
            }
            int maid = in.member(v.names, MAID_NAMES, v.maids);
            if (maid < 0) {
                return false;
            }
            int much = in.amount(0, MUCH);
            if (much < 0 || !in.skip(SEMICOLON)) {
                return false;
            }
            v.say[thing * MAIDS + maid] = much;
            return true;
        }

        private boolean readAfter(Valley v) {
            if (v.afters >= AFTERS) {
                return in.fail(TOO_MANY);
            }
            in.step();
            int later = in.member(v.names, THING_NAMES, v.things);
            if (later < 0) {
                return false;
            }
            int sooner = in.find(v.names, THING_NAMES, v.things);
            if (sooner < 0) {
                return false;
            }
            if (later == sooner || v.of[later] != v.of[sooner]) {
                return in.fail(WRONG_AFTER_OR_AGAIN);
            }
            in.step();
            if (!in.skip(SEMICOLON)) {
                return false;
            }
            v.after[later] |= 1 << sooner;
            v.afters++;
            return true;
        }

        private boolean readLikes(Valley v) {
            in.step();
            int suitor = in.member(v.names, 0, v.suitors);
            if (suitor < 0) {
                return false;
            }
            int maid = in.member(v.names, MAID_NAMES, v.maids);
            if (maid < 0) {
                return false;
            }
            int much = in.amount(0, MUCH);
            if (much < 0 || !in.skip(SEMICOLON)) {
                return false;
            }
            v.liking[suitor * MAIDS + maid] = much;
            return true;
        }

        private boolean readWeekly(Valley v) {
            if (weeklyTold) {
                return in.fail(WRONG_AFTER_OR_AGAIN);
            }
            in.step();
            int weekly = in.amount(1, 9);
            if (weekly < 0 || !in.skip(SEMICOLON)) {
                return false;
            }
            v.weekly = weekly;
            weeklyTold = true;
            return true;
        }

        private boolean readFair(Valley v) {
            if (fairTold) {
                return in.fail(WRONG_AFTER_OR_AGAIN);
            }
            in.step();
            int fair = in.amount(1, 20);
            if (fair < 0 || !in.skip(SEMICOLON)) {
                return false;
            }
            v.fair = fair;
            fairTold = true;
            return true;
        }
    }

    private static final class YearsReader {
        private final Text in;
        private final int[] open = new int[NESTED];
        private int opened = 0;

        YearsReader(Text text) {
            in = text;
        }

        boolean take(Years y, Valley v, int n) {
            y.clear();
            opened = 0;
            in.begin(n);
            boolean fine = true;
            for (int line = 0; line <= LINES && fine && in.kind != TEXT_END; line++) {
                fine = in.kind == END ? readEnd(y) : readStep(y, v);
            }
            if (fine && opened > 0) {
                fine = in.misplaced();
            }
            y.there = fine;
            return fine;
        }

        private boolean readEnd(Years y) {
            if (opened <= 0 || y.lines >= LINES) {
                return in.misplaced();
            }
            in.step();
            if (!in.skip(SEMICOLON)) {
                return false;
            }
            opened--;
            int from = open[opened];
            y.act[y.lines] = END;
            y.link[y.lines] = from;
            y.link[from] = y.lines;
            y.lines++;
            return true;
        }

        private boolean readStep(Years y, Valley v) {
            if (!isStep(in.kind)) {
                return in.misplaced();
            }
            if (y.steps >= STEPS || y.lines >= LINES) {
                return in.fail(TOO_MANY);
            }
            boolean opens = in.kind == WHEN || in.kind == LOOP;
            if (opens && opened >= NESTED) {
                return in.fail(TOO_DEEP);
            }
            y.act[y.lines] = in.kind;
            in.step();
            boolean fine = y.act[y.lines] == WHEN ? readTest(y, v) : readDeed(y, v);
            if (!fine || !in.skip(SEMICOLON)) {
                return false;
            }
            if (opens) {
                open[opened] = y.lines;
                opened++;
            }
            y.lines++;
            y.steps++;
            return true;
        }

        private static boolean isStep(int kind) {
            switch (kind) {
                case GIVE:
                case FEIGN:
                case ANY:
                case BACK:
                case WEEK:
                case WED:
                case WHEN:
                case LOOP:
                case STOP:
                    return true;
                default:
                    return false;
            }
        }

        private boolean readDeed(Years y, Valley v) {
            int line = y.lines;
            switch (y.act[line]) {
                case GIVE:
                case FEIGN:
                case BACK:
                    y.who[line] = in.member(v.names, THING_NAMES, v.things);
                    return y.who[line] >= 0;
                case ANY:
                    y.who[line] = in.member(v.names, 0, v.suitors);
                    return y.who[line] >= 0;
                case WED:
                    y.who[line] = in.member(v.names, 0, v.suitors);
                    if (y.who[line] < 0 || !in.skip(WITH)) {
                        return false;
                    }
                    y.whom[line] = in.member(v.names, MAID_NAMES, v.maids);
                    return y.whom[line] >= 0;
                case LOOP:
                    y.number[line] = in.amount(1, 99);
                    return y.number[line] >= 0;
                default:
                    return true;
            }
        }

        /** The word of the TEST takes the place of the when. */
        private boolean readTest(Years y, Valley v) {
            int line = y.lines;
            int test = in.kind;
            if (test != HEARD && test != YES && test != BARE) {
                return in.misplaced();
            }
            y.act[line] = test;
            in.step();
            y.who[line] = in.member(v.names, 0, v.suitors);
            if (y.who[line] < 0 || test == BARE) {
                return y.who[line] >= 0;
            }
            if (!in.skip(TO)) {
                return false;
            }
            y.whom[line] = in.member(v.names, MAID_NAMES, v.maids);
            if (y.whom[line] < 0 || test == YES) {
                return y.whom[line] >= 0;
            }
            if (in.kind != LESS && in.kind != MORE && in.kind != EQUAL) {
                return in.misplaced();
            }
            y.compare[line] = in.kind;
            in.step();
            y.number[line] = in.amount(0, 9999);
            return y.number[line] >= 0;
        }
    }

    /** What became of a VALLEY. */
    private static final class Deeds {
        final int[] cows = new int[SUITORS];
        final int[] thisWeek = new int[SUITORS];
        final int[] maidOf = new int[SUITORS];
        final int[] suitorOf = new int[MAIDS];
        int week = 0;
        int given = 0;
        int feigned = 0;

        void clear() {
            Arrays.fill(cows, 0);
            Arrays.fill(thisWeek, 0);
            Arrays.fill(maidOf, NONE);
            Arrays.fill(suitorOf, NONE);
            week = 0;
            given = 0;
            feigned = 0;
        }

        void copy(Deeds other) {
            System.arraycopy(other.cows, 0, cows, 0, SUITORS);
            System.arraycopy(other.thisWeek, 0, thisWeek, 0, SUITORS);
            System.arraycopy(other.maidOf, 0, maidOf, 0, SUITORS);
            System.arraycopy(other.suitorOf, 0, suitorOf, 0, MAIDS);
            week = other.week;
            given = other.given;
            feigned = other.feigned;
        }
    }

    /** STEPS and ends, a line each; a when's line bears the word of its TEST. */
    private static final class Years {
        final int[] act = new int[LINES];
        final int[] who = new int[LINES];
        final int[] whom = new int[LINES];
        final int[] compare = new int[LINES];
        final int[] number = new int[LINES];
        // Of a when or a loop: the line of its end; of an end: the line that it ends.
        final int[] link = new int[LINES];
        boolean there = false;
        int steps = 0;
        int lines = 0;

        void clear() {
            there = false;
            steps = 0;
            lines = 0;
        }

        void copy(Years other) {
            System.arraycopy(other.act, 0, act, 0, LINES);
            System.arraycopy(other.who, 0, who, 0, LINES);
            System.arraycopy(other.whom, 0, whom, 0, LINES);
            System.arraycopy(other.compare, 0, compare, 0, LINES);
            System.arraycopy(other.number, 0, number, 0, LINES);
            System.arraycopy(other.link, 0, link, 0, LINES);
            there = other.there;
            steps = other.steps;
            lines = other.lines;
        }
    }

    private static final class Valley {
        final long[] names = new long[NAMES];
        final int[] age = new int[SUITORS];
        final int[] liking = new int[SUITORS * MAIDS];
        final int[] bars = new int[MAIDS];
        final int[] rises = new int[MAIDS];
        final int[] mother = new int[MAIDS];
        final int[] of = new int[THINGS];
        final int[] worth = new int[THINGS];
        final int[] after = new int[THINGS];
        final int[] need = new int[THINGS];
        // While a text is read, NONE stands where nothing was told yet.
        final int[] say = new int[THINGS * MAIDS];
        final Deeds deeds = new Deeds();
        final Years years = new Years();
        int suitors = 0;
        int maids = 0;
        int things = 0;
        int afters = 0;
        int weekly = 0;
        int fair = 0;
        int hopeless = 0;

        Valley() {
            clear();
        }

        final void clear() {
            Arrays.fill(names, 0L);
            Arrays.fill(liking, 0);
            Arrays.fill(after, 0);
            Arrays.fill(need, 0);
            Arrays.fill(say, NONE);
            hopeless = 0;
            deeds.clear();
            years.clear();
            suitors = 0;
            maids = 0;
            things = 0;
            afters = 0;
            weekly = 2;
            fair = 4;
        }

        void copy(Valley other) {
            System.arraycopy(other.names, 0, names, 0, NAMES);
            System.arraycopy(other.age, 0, age, 0, SUITORS);
            System.arraycopy(other.liking, 0, liking, 0, SUITORS * MAIDS);
            System.arraycopy(other.bars, 0, bars, 0, MAIDS);
            System.arraycopy(other.rises, 0, rises, 0, MAIDS);
            System.arraycopy(other.mother, 0, mother, 0, MAIDS);
            System.arraycopy(other.of, 0, of, 0, THINGS);
            System.arraycopy(other.worth, 0, worth, 0, THINGS);
            System.arraycopy(other.after, 0, after, 0, THINGS);
            System.arraycopy(other.need, 0, need, 0, THINGS);
            System.arraycopy(other.say, 0, say, 0, THINGS * MAIDS);
            deeds.copy(other.deeds);
            years.copy(other.years);
            suitors = other.suitors;
            maids = other.maids;
            things = other.things;
            afters = other.afters;
            weekly = other.weekly;
            fair = other.fair;
            hopeless = other.hopeless;
        }

        void addThing(long name, int suitor, int much) {
            names[THING_NAMES + things] = name;
            of[things] = suitor;
            worth[things] = much;
            things++;
        }

        /** What follows from all that was told, once and for all. */
        void complete() {
            for (int i = 0; i < THINGS * MAIDS; i++) {
                say[i] = say[i] < 0 ? worth[i / MAIDS] : say[i];
            }
            findNeeds();
            for (int thing = 0; thing < things; thing++) {
                hopeless |= isHopeless(thing) ? 1 << thing : 0;
            }
        }

        /** AFTER by others too: through each THING in turn go all that are AFTER it. */
        private void findNeeds() {
            System.arraycopy(after, 0, need, 0, THINGS);
            for (int middle = 0; middle < THINGS; middle++) {
                for (int thing = 0; thing < THINGS; thing++) {
                    if (holds(need[thing], middle)) {
                        need[thing] |= need[middle];
                    }
                }
            }
        }

        /** In a ring, or AFTER what is in one. */
        private boolean isHopeless(int thing) {
            int line = need[thing] | 1 << thing;
            for (int other = 0; other < things; other++) {
                if (holds(line, other) && holds(need[other], other)) {
                    return true;
                }
            }
            return false;
        }

        int deep(int thing) {
            return holds(hopeless, thing) ? NEVER_DEEP : Integer.bitCount(need[thing]);
        }

        int firsts(int given) {
            int set = 0;
            for (int thing = 0; thing < things; thing++) {
                if (holds(given, thing) && (after[thing] & given) == 0) {
                    set |= 1 << thing;
                }
            }
            return set;
        }

        int lasts(int given) {
            int set = given;
            for (int thing = 0; thing < things; thing++) {
                if (holds(given, thing)) {
                    set &= ~after[thing];
                }
            }
            return set;
        }

        int goods(int suitor) {
            int set = 0;
            for (int thing = 0; thing < things; thing++) {
                if (of[thing] == suitor) {
                    set |= 1 << thing;
                }
            }
            return set;
        }

        private int worthOf(int set) {
            int sum = 0;
            for (int thing = 0; thing < things; thing++) {
                sum += holds(set, thing) ? worth[thing] : 0;
            }
            return sum;
        }

        int left(int suitor) {
            return worthOf(goods(suitor) & ~deeds.given);
        }

        int loss(int suitor) {
            return worthOf(goods(suitor) & deeds.given);
        }

        int stateOf(int thing) {
            if (holds(deeds.given, thing)) {
                return 1;
            }
            return holds(deeds.feigned, thing) ? 2 : 0;
        }

        int word(int thing, int maid) {
            return say[thing * MAIDS + maid];
        }

        int saying(int set, int maid) {
            int sum = 0;
            for (int thing = 0; thing < things; thing++) {
                sum += (set & 1 << thing) != 0 ? say[thing * MAIDS + maid] : 0;
            }
            return sum;
        }

        int hears(int suitor, int maid) {
            return saying(goods(suitor) & (deeds.given | deeds.feigned), maid);
        }

        int barNow(int maid) {
            return bars[maid] + rises[maid] * deeds.week;
        }

        boolean isWed(int suitor) {
            return deeds.maidOf[suitor] >= 0;
        }

        boolean isTaken(int maid) {
            return deeds.suitorOf[maid] >= 0;
        }

        int couples() {
            int many = 0;
            for (int suitor = 0; suitor < suitors; suitor++) {
                many += isWed(suitor) ? 1 : 0;
            }
            return many;
        }

        boolean isWilling(int suitor, int maid) {
            return !isWed(suitor) && !isTaken(maid) && hears(suitor, maid) >= barNow(maid);
        }

        boolean isBare(int suitor) {
            return (goods(suitor) & ~deeds.given) == 0;
        }

        int feignedBy(int suitor) {
            return Integer.bitCount(goods(suitor) & deeds.feigned);
        }

        private boolean canGive(int thing) {
            int suitor = of[thing];
            return ((deeds.given | deeds.feigned) & 1 << thing) == 0 && !isWed(suitor)
                    && (after[thing] & ~deeds.given) == 0 && deeds.thisWeek[suitor] < weekly;
        }

        int givable(int suitor) {
            int set = 0;
            for (int thing = 0; thing < things; thing++) {
                if (of[thing] == suitor && canGive(thing)) {
                    set |= 1 << thing;
                }
            }
            return set;
        }

        boolean giveUp(int thing) {
            if (!canGive(thing)) {
                return false;
            }
            deeds.given |= 1 << thing;
            deeds.thisWeek[of[thing]]++;
            return true;
        }

        boolean pretend(int thing) {
            if (!canGive(thing)) {
                return false;
            }
            deeds.feigned |= 1 << thing;
            deeds.thisWeek[of[thing]]++;
            return true;
        }

        boolean passWeek() {
            if (deeds.week >= LAST_WEEK) {
                return false;
            }
            deeds.week++;
            Arrays.fill(deeds.thisWeek, 0);
            return true;
        }

        boolean marry(int suitor, int maid) {
            if (!isWilling(suitor, maid) || deeds.cows[suitor] < mother[maid]) {
                return false;
            }
            deeds.cows[suitor] -= mother[maid];
            deeds.maidOf[suitor] = maid;
            deeds.suitorOf[maid] = suitor;
            return true;
        }

        /** WEEK 0 is no FAIR, though it is divisible. */
        int weeksToFair() {
            int since = fair > 0 ? deeds.week % fair : 0;
            return since == 0 && deeds.week > 0 ? 0 : fair - since;
        }

        boolean fetch(int thing) {
            int suitor = of[thing];
            int price = Math.max(1, (worth[thing] + 9) / 10);
            if (weeksToFair() != 0 || isWed(suitor) || !holds(deeds.given, thing)
                    || deeds.cows[suitor] < price || isNeededByGiven(thing)) {
                return false;
            }
            deeds.given &= ~(1 << thing);
            deeds.cows[suitor] -= price;
            return true;
        }

        private boolean isNeededByGiven(int thing) {
            for (int other = 0; other < things; other++) {
                if (holds(deeds.given, other) && holds(after[other], thing)) {
                    return true;
                }
            }
            return false;
        }

        /** Whether a MAID has one SUITOR rather than another: HEARD more, elder, first. */
        boolean isAhead(int suitor, int other, int maid) {
            int heard = hears(suitor, maid);
            int otherHeard = hears(other, maid);
            if (heard != otherHeard) {
                return heard > otherHeard;
            }
            if (age[suitor] != age[other]) {
                return age[suitor] > age[other];
            }
            return suitor < other;
        }

        int chosenBy(int maid) {
            int best = NONE;
            for (int suitor = 0; suitor < suitors; suitor++) {
                if (!isWed(suitor) && (best < 0 || isAhead(suitor, best, maid))) {
                    best = suitor;
                }
            }
            return best;
        }

        int proudTo(int maid) {
            int set = 0;
            for (int thing = 0; thing < things; thing++) {
                if (word(thing, maid) > worth[thing]) {
                    set |= 1 << thing;
                }
            }
            return set;
        }

        int bestFor(int suitor, int maid) {
            int best = NONE;
            for (int thing = 0; thing < things; thing++) {
                if (of[thing] == suitor && stateOf(thing) == 0
                        && (best < 0 || isDearer(thing, best, maid))) {
                    best = thing;
                }
            }
            return best;
        }

        private boolean isDearer(int thing, int other, int maid) {
            return word(thing, maid) * (worth[other] + 1) > word(other, maid) * (worth[thing] + 1);
        }
    }

    /** What a SUITOR can come to with a MAID in some WEEKS. */
    private static final class Plan {
        private final int[] item = new int[THINGS];
        private final int[] itemWorth = new int[THINGS];
        private final int[] itemWord = new int[THINGS];
        private final int[] itemAfter = new int[THINGS];
        private int items = 0;
        private int given = 0;
        private int leftNow = 0;
        private int weekly = 0;
        private int room = 0;
        private int bar = 0;
        private int rises = 0;
        private int size = 0;
        int worth = 0;
        int set = NONE;
        int fewest = 0;
        int soonest = 0;
        int most = 0;

        void make(Valley v, int suitor, int maid, int weeks) {
            given = v.deeds.given;
            weekly = v.weekly;
            leftNow = weekly - v.deeds.thisWeek[suitor];
            room = leftNow + weekly * Math.min(weeks, LAST_WEEK - v.deeds.week);
            bar = v.barNow(maid);
            rises = v.rises[maid];
            set = NONE;
            most = 0;
            gather(v, suitor, maid);
            grow(0, 0, 0, 0, v.hears(suitor, maid));
        }

        boolean isFound() {
            return set >= 0;
        }

        /** Those that need less stand first: so each stands behind all that it needs. */
        private void gather(Valley v, int suitor, int maid) {
            int free = v.goods(suitor) & ~v.deeds.given & ~v.deeds.feigned & ~v.hopeless;
            items = 0;
            for (int deep = 0; deep < THINGS; deep++) {
                for (int thing = 0; thing < v.things && items < THINGS; thing++) {
                    if (holds(free, thing) && Integer.bitCount(v.need[thing]) == deep) {
                        item[items] = thing;
                        itemWorth[items] = v.worth[thing];
                        itemWord[items] = v.word(thing, maid);
                        itemAfter[items] = v.after[thing];
                        items++;
                    }
                }
            }
        }

        /** Each call begins at a greater place, so no more than one stands open for each THING. */
        private void grow(int from, int chosen, int many, int sum, int heard) {
            weigh(chosen, many, sum, heard);
            if (many >= room) {
                return;
            }
            for (int i = from; i < items && i < THINGS; i++) {
                if ((itemAfter[i] & ~(given | chosen)) == 0) {
                    grow(i + 1, chosen | 1 << item[i], many + 1, sum + itemWorth[i], heard + itemWord[i]);
                }
            }
        }

        /** A BAR never falls, so the first WEEK in which all can be GIVEN is the best one. */
        private void weigh(int chosen, int many, int sum, int heard) {
            most = Math.max(most, heard);
            int weeks = 0;
            if (many > leftNow && weekly > 0) {
                weeks = (many - leftNow + weekly - 1) / weekly;
            }
            if (heard < bar + rises * weeks) {
                return;
            }
            fewest = set < 0 ? many : Math.min(fewest, many);
            soonest = set < 0 ? weeks : Math.min(soonest, weeks);
            if (set < 0 || isLess(chosen, many, sum)) {
                set = chosen;
                size = many;
                worth = sum;
            }
        }

        private boolean isLess(int chosen, int many, int sum) {
            if (sum != worth) {
                return sum < worth;
            }
            return many != size ? many < size : chosen < set;
        }
    }

    /** Who weds whom where most wed at the least LOSS. */
    private static final class Village {
        private final Plan plan;
        private final int[] cost = new int[SUITORS * MAIDS];
        private final int[] tried = new int[SUITORS];
        final int[] chosen = new int[SUITORS];
        int couples = 0;
        int loss = 0;

        Village(Plan used) {
            plan = used;
        }

        void settle(Valley v, int weeks) {
            int ways = 1;
            for (int suitor = 0; suitor < v.suitors; suitor++) {
                chosen[suitor] = NONE;
                ways *= v.maids + 1;
                for (int maid = 0; maid < v.maids; maid++) {
                    cost[suitor * MAIDS + maid] = costOf(v, suitor, maid, weeks);
                }
            }
            couples = 0;
            loss = 0;
            // The ways come in the order that the document wants, so a later one must be better.
            for (int way = 0; way < ways; way++) {
                weighWay(v, way);
            }
        }

        private int costOf(Valley v, int suitor, int maid, int weeks) {
            if (v.isWed(suitor) || v.isTaken(maid)) {
                return NONE;
            }
            plan.make(v, suitor, maid, weeks);
            return plan.isFound() ? plan.worth : NONE;
        }

        /** A way is a number with a digit a SUITOR, his MAID; the greatest digit is none. */
        private void weighWay(Valley v, int way) {
            int base = v.maids + 1;
            int rest = way;
            int taken = 0;
            int sum = 0;
            for (int suitor = v.suitors - 1; suitor >= 0; suitor--) {
                int maid = base > 0 ? rest % base : 0;
                rest = base > 0 ? rest / base : 0;
                tried[suitor] = NONE;
                if (maid < v.maids) {
                    if (holds(taken, maid) || cost[suitor * MAIDS + maid] < 0) {
                        return;
                    }
                    tried[suitor] = maid;
                    taken |= 1 << maid;
                    sum += cost[suitor * MAIDS + maid];
                }
            }
            int many = Integer.bitCount(taken);
            if (many > couples || many == couples && sum < loss) {
                couples = many;
                loss = sum;
                System.arraycopy(tried, 0, chosen, 0, SUITORS);
            }
        }
    }

    /** Who would leave whom, and who keeps whom when all have ASKED. */
    private static final class Courtship {
        private final int[] own = new int[SUITORS];
        private final int[] noes = new int[SUITORS];
        final int[] maidOf = new int[SUITORS];
        int bolting = 0;
        int firstSuitor = NONE;
        int firstMaid = NONE;
        int refused = 0;

        /** False if a TRAY tells no couples; it is known to be long enough. */
        boolean load(Tray tray, Valley v) {
            int taken = 0;
            for (int suitor = 0; suitor < v.suitors; suitor++) {
                long maid = tray.row[suitor];
                if (maid < NONE || maid >= v.maids) {
                    return false;
                }
                own[suitor] = (int) maid;
                if (maid >= 0) {
                    if (holds(taken, own[suitor])) {
                        return false;
                    }
                    taken |= 1 << own[suitor];
                }
            }
            return true;
        }

        void seekBolters(Valley v) {
            bolting = 0;
            firstSuitor = NONE;
            firstMaid = NONE;
            for (int suitor = 0; suitor < v.suitors; suitor++) {
                for (int maid = 0; maid < v.maids; maid++) {
                    if (wouldBolt(v, suitor, maid)) {
                        if (bolting == 0) {
                            firstSuitor = suitor;
                            firstMaid = maid;
                        }
                        bolting++;
                    }
                }
            }
        }

        private boolean wouldBolt(Valley v, int suitor, int maid) {
            int his = own[suitor];
            if (his == maid) {
                return false;
            }
            if (his >= 0 && v.liking[suitor * MAIDS + maid] <= v.liking[suitor * MAIDS + his]) {
                return false;
            }
            int hers = NONE;
            for (int other = 0; other < v.suitors; other++) {
                if (own[other] == maid) {
                    hers = other;
                }
            }
            return hers < 0 || v.hears(suitor, maid) > v.hears(hers, maid);
        }

        void ask(Valley v) {
            refused = 0;
            Arrays.fill(noes, 0);
            boolean again = true;
            // Each round but the last has a refusal, and no SUITOR is refused twice by a MAID.
            for (int round = 0; round <= SUITORS * MAIDS && again; round++) {
                for (int suitor = 0; suitor < v.suitors; suitor++) {
                    maidOf[suitor] = dearestMaid(v, suitor);
                }
                again = false;
                for (int maid = 0; maid < v.maids; maid++) {
                    again |= refuseOthers(v, maid);
                }
            }
        }

        private int dearestMaid(Valley v, int suitor) {
            int best = NONE;
            for (int maid = 0; maid < v.maids; maid++) {
                if (!holds(noes[suitor], maid) && (best < 0
                        || v.liking[suitor * MAIDS + maid] > v.liking[suitor * MAIDS + best])) {
                    best = maid;
                }
            }
            return best;
        }

        private boolean refuseOthers(Valley v, int maid) {
            int best = NONE;
            for (int suitor = 0; suitor < v.suitors; suitor++) {
                if (maidOf[suitor] == maid && (best < 0 || v.isAhead(suitor, best, maid))) {
                    best = suitor;
                }
            }
            boolean any = false;
            for (int suitor = 0; suitor < v.suitors; suitor++) {
                if (maidOf[suitor] == maid && suitor != best) {
                    noes[suitor] |= 1 << maid;
                    refused++;
                    any = true;
                }
            }
            return any;
        }
    }

    /** Lives through the YEARS of a VALLEY. */
    private static final class Life {
        private final int[] roundsLeft = new int[LINES];
        final int[] tally = new int[LIVED];
        int steps = 0;
        private int drawn = 0;

        void run(Valley v, int seed) {
            Years y = v.years;
            Arrays.fill(tally, 0);
            steps = 0;
            drawn = seed;
            int line = 0;
            for (int turn = 0; turn < TURNS && line < y.lines; turn++) {
                if (y.act[line] == END) {
                    line = behindEnd(y, line);
                } else if (steps >= STEPS_DONE) {
                    tally[CUT] = 1;
                    return;
                } else {
                    steps++;
                    line = behindStep(v, y, line);
                }
            }
        }

        private int behindEnd(Years y, int line) {
            int from = y.link[line];
            if (y.act[from] != LOOP || roundsLeft[from] <= 1) {
                return line + 1;
            }
            roundsLeft[from]--;
            return from + 1;
        }

        private int behindStep(Valley v, Years y, int line) {
            switch (y.act[line]) {
                case STOP:
                    return y.lines;
                case LOOP:
                    roundsLeft[line] = y.number[line];
                    return line + 1;
                case HEARD:
                case YES:
                case BARE:
                    return isTrue(v, y, line) ? line + 1 : y.link[line] + 1;
                default:
                    if (!isDone(v, y, line)) {
                        tally[MISSED]++;
                    }
                    return line + 1;
            }
        }

        private static boolean isTrue(Valley v, Years y, int line) {
            if (y.act[line] == BARE) {
                return v.isBare(y.who[line]);
            }
            if (y.act[line] == YES) {
                return v.isWilling(y.who[line], y.whom[line]);
            }
            int heard = v.hears(y.who[line], y.whom[line]);
            switch (y.compare[line]) {
                case LESS: return heard < y.number[line];
                case MORE: return heard > y.number[line];
                default: return heard == y.number[line];
            }
        }

        private boolean isDone(Valley v, Years y, int line) {
            switch (y.act[line]) {
                case GIVE: return counted(GIFTS, v.giveUp(y.who[line]));
                case FEIGN: return v.pretend(y.who[line]);
                case ANY: return counted(GIFTS, gaveAny(v, y.who[line]));
                case BACK: return v.fetch(y.who[line]);
                case WEEK: return counted(WEEKS, v.passWeek());
                case WED: return counted(WEDDINGS, v.marry(y.who[line], y.whom[line]));
                default: return false;
            }
        }

        private boolean counted(int what, boolean done) {
            tally[what] += done ? 1 : 0;
            return done;
        }

        private boolean gaveAny(Valley v, int suitor) {
            int set = v.givable(suitor);
            int many = Integer.bitCount(set);
            if (many <= 0) {
                return false;
            }
            int ahead = draw(many);
            for (int thing = 0; thing < THINGS; thing++) {
                if (holds(set, thing)) {
                    if (ahead == 0) {
                        return v.giveUp(thing);
                    }
                    ahead--;
                }
            }
            return false;
        }

        private int draw(int many) {
            drawn = (drawn * 2927 + 11129) % 65536;
            return many > 0 ? drawn / 8 % many : 0;
        }
    }
}
