import java.util.NoSuchElementException;

/**
 * A pier of spots over deep water, told as a text; what its questions, seats, market and days come to.
 *
 * A QUESTION is kept as one number, 100 times the spot, 10 times the fathoms and the bait: so going up
 * through the numbers goes by spots, fathoms, baits, as the document wants it, and an answer of the face
 * needs no turning. A place in the dark is kept likewise, with the depth and the bait that is liked.
 */
public final class HookPier {
    public static final int NONE = -1;

    /** What a call answers that isn't refused, yet has nothing to tell. */
    private static final int ABSENT = -2;
    /** What lines() answers if it is refused, as -1 may be what one has. */
    private static final int LINES_REFUSED = -100;

    private static final int MOST_BAITS = 4;
    private static final int MOST_ASKERS = 5;
    private static final int MOST_ANSWERS = 6;
    private static final int MOST_BITES = 6;
    private static final int MOST_LINES = 6;
    private static final int MOST_ACTS = 16;
    private static final int MOST_MARKS = 3;
    private static final int LAST_DAY = 999;
    private static final int MOST_DAYS_AHEAD = 60;
    private static final int DAYS_TO_SELL = 20;
    private static final int MOST_STOCK = 99;
    private static final int MOST_SHARED = 999;
    private static final int MOST_HUNGER = 99;
    private static final int BITES_FROM = 50;
    /** Five askers on eight spots, so that this many rows are all there can be. */
    private static final int MOST_ROWS = 8 * 7 * 6 * 5 * 4;
    private static final int TAPE_ROOM = 900;
    private static final int SEED_BOUND = 65537;
    /** All chances together: each of at most six answers takes a hundredth part of what is left, so no part is ever broken. */
    private static final long ALL = 1000000000000L;

    private static final int PLAIN = 0;
    private static final int COLD = 1;
    private static final int CRAB = 2;
    private static final int BOOT = 3;

    private static final int THERE = 0;
    private static final int LANDED = 1;
    private static final int SOLD = 2;

    /** TROUBLE, by its numbers. */
    private static final int NO_SUCH = 1;
    private static final int BAD_NUMBER = 2;
    private static final int NO_ROOM = 3;
    private static final int FAULTY = 4;
    private static final int NOT_SO = 5;
    private static final int NOTHING_THERE = 6;

    /** FAULTS, by their numbers. */
    private static final int FORM = 1;
    private static final int UNTOLD = 2;
    private static final int TWICE = 3;
    private static final int BOUNDS = 4;
    private static final int MANY = 5;
    private static final int LACKS = 6;

    private Plan plan;
    /** The next text is read into this one, so that the PIER stays if it has a FAULT. */
    private Plan spare;
    private final Reader reader;
    private final Now now;
    private final History history;
    private final Seats seats;
    private final Dark dark;
    private final Days days;
    private int troubleNow;
    private int faultNow;

    public HookPier() {
        plan = new Plan();
        spare = new Plan();
        reader = new Reader();
        now = new Now();
        history = new History();
        seats = new Seats();
        dark = new Dark();
        days = new Days();
        troubleNow = 0;
        faultNow = 0;
    }

    // ---- the pier

    public int feed(int a, int b, int c, int d, int e) {
        if (reader.fed + 20 > TAPE_ROOM) {
            return NONE;
        }
        reader.put(a);
        reader.put(b);
        reader.put(c);
        reader.put(d);
        reader.put(e);
        return reader.fed;
    }

    public int pier(int n) {
        if (refused(within(n, 0, reader.fed) ? 0 : BAD_NUMBER)) {
            return NONE;
        }
        boolean good = reader.read(n, spare);
        faultNow = reader.fault;
        if (refused(good ? 0 : FAULTY)) {
            return NONE;
        }
        Plan old = plan;
        plan = spare;
        spare = old;
        now.begin();
        history.forgetAll();
        return plan.answers;
    }

    public int fault() {
        return faultNow;
    }

    public int where() {
        return troubleNow == FAULTY ? reader.place : NONE;
    }

    // ---- now

    public int answer(int a, int what) {
        if (refused(within(what, 0, 9) ? answerTrouble(a) : NO_SUCH)) {
            return NONE;
        }
        switch (what) {
            case 0: return plan.kind[a];
            case 1: return plan.at[a];
            case 2: return plan.depth[a];
            case 3: return plan.hunger[a];
            case 4: return plan.likes[a];
            case 5: return plan.told[a];
            case 6: return now.stage[a];
            case 7: return now.stage[a] == THERE ? ABSENT : now.landedOn[a];
            case 8: return now.stage[a] == THERE ? ABSENT : now.landedBy[a];
            default: return now.stage[a] == LANDED ? Market.worthOn(plan, now, a, now.today) : ABSENT;
        }
    }

    public int asker(int k, int what) {
        if (refused(within(what, 0, 5) ? askerTrouble(k) : NO_SUCH)) {
            return NONE;
        }
        int line = now.line[k];
        switch (what) {
            case 0: return plan.reach[k];
            case 1: return line == NONE ? ABSENT : spotOf(line);
            case 2: return line == NONE ? ABSENT : fathomsOf(line);
            case 3: return line == NONE ? ABSENT : baitOf(line);
            case 4: return now.landedBits(plan.answers, k);
            default: return line != NONE && now.isTangled(plan, k, spotOf(line)) ? 1 : 0;
        }
    }

    public int close(int day) {
        if (refused(numberTrouble(within(day, 0, LAST_DAY)))) {
            return NONE;
        }
        return plan.isClose(day) ? 1 : 0;
    }

    // ---- questions: a spot, fathoms, a bait

    public int wish(int a, int spot, int fathoms, int bait) {
        if (refused(wishTrouble(a, spot, fathoms, bait))) {
            return NONE;
        }
        return plan.wishFor(a, question(spot, fathoms, bait));
    }

    public long takes(int a, int spot, int fathoms, int bait, boolean lower) {
        if (refused(wishTrouble(a, spot, fathoms, bait))) {
            return NONE;
        }
        return Odds.term(Odds.chance(plan, now, a, question(spot, fathoms, bait)), lower);
    }

    public long nothing(int spot, int fathoms, int bait, boolean lower) {
        if (refused(questionTrouble(spot, fathoms, bait))) {
            return NONE;
        }
        return Odds.term(Odds.chance(plan, now, NONE, question(spot, fathoms, bait)), lower);
    }

    public long mean(int spot, int fathoms, int bait, boolean lower) {
        if (refused(questionTrouble(spot, fathoms, bait))) {
            return NONE;
        }
        return Odds.term(Odds.meanWorth(plan, now, question(spot, fathoms, bait)), lower);
    }

    public int likeliest(int spot, int fathoms, int bait) {
        if (refused(questionTrouble(spot, fathoms, bait))) {
            return NONE;
        }
        return Odds.likeliestTaker(plan, now, question(spot, fathoms, bait));
    }

    public int surest(int a) {
        if (refused(thereTrouble(a))) {
            return NONE;
        }
        return Odds.surestQuestion(plan, now, a);
    }

    public long surestOdds(int a, boolean lower) {
        if (refused(thereTrouble(a))) {
            return NONE;
        }
        int q = Odds.surestQuestion(plan, now, a);
        return Odds.term(q == ABSENT ? 0 : Odds.chance(plan, now, a, q), lower);
    }

    public int best() {
        if (refused(pierTrouble())) {
            return NONE;
        }
        return Odds.worthiestQuestion(plan, now);
    }

    public int bestBait() {
        if (refused(pierTrouble())) {
            return NONE;
        }
        int best = 0;
        for (int bait = 1; bait < plan.baits; bait++) {
            if (likers(bait) > likers(best)) {
                best = bait;
            }
        }
        return best;
    }

    public int hungerFor(int a, int spot, int fathoms, int bait) {
        if (refused(wishTrouble(a, spot, fathoms, bait))) {
            return NONE;
        }
        int q = question(spot, fathoms, bait);
        for (int hunger = 0; hunger <= MOST_HUNGER; hunger++) {
            if (plan.wishBy(a, hunger, q) >= BITES_FROM) {
                return hunger;
            }
        }
        return ABSENT;
    }

    // ---- seats

    public int freeSpots(int k) {
        if (refused(askerTrouble(k))) {
            return NONE;
        }
        int bits = 0;
        for (int spot = 0; spot < plan.spots; spot++) {
            if (!now.isTangled(plan, k, spot)) {
                bits |= 1 << spot;
            }
        }
        return bits;
    }

    public int tangles(int k, int spot, int other, int otherSpot) {
        boolean such = plan.hasAsker(k) && plan.hasAsker(other) && k != other
                && plan.hasSpot(spot) && plan.hasSpot(otherSpot);
        if (refused(such ? 0 : NO_SUCH)) {
            return NONE;
        }
        return plan.isTangle(k, spot, other, otherSpot) ? 1 : 0;
    }

    public int seatings() {
        int why = pierTrouble();
        if (refused(why == 0 && plan.askers == 0 ? NOTHING_THERE : why)) {
            return NONE;
        }
        return seats.countRows(plan, everyAsker(), MOST_ROWS);
    }

    public int seat(int k) {
        if (refused(askerTrouble(k))) {
            return NONE;
        }
        return seats.countRows(plan, everyAsker(), 1) == 0 ? ABSENT : seats.first[k];
    }

    public int mostSeated() {
        if (refused(pierTrouble())) {
            return NONE;
        }
        int best = 0;
        for (int bits = 1; bits <= everyAsker(); bits++) {
            if (Integer.bitCount(bits) > Integer.bitCount(best) && seats.countRows(plan, bits, 1) > 0) {
                best = bits;
            }
        }
        return best;
    }

    // ---- the dark

    public int darks() {
        if (refused(darkTrouble())) {
            return NONE;
        }
        dark.find(plan);
        return dark.many;
    }

    public int darkAt(int i) {
        if (refused(darkTrouble())) {
            return NONE;
        }
        dark.find(plan);
        if (refused(within(i, 0, dark.many - 1) ? 0 : NO_SUCH)) {
            return NONE;
        }
        return dark.place[i];
    }

    public int darkSpots() {
        if (refused(darkTrouble())) {
            return NONE;
        }
        dark.find(plan);
        int bits = 0;
        for (int i = 0; i < dark.many; i++) {
            bits |= 1 << spotOf(dark.place[i]);
        }
        return bits;
    }

    public int ask() {
        if (refused(darkTrouble())) {
            return NONE;
        }
        dark.find(plan);
        return dark.tellingQuestion(plan);
    }

    public int askLeaves() {
        if (refused(darkTrouble())) {
            return NONE;
        }
        dark.find(plan);
        int q = dark.tellingQuestion(plan);
        return q == ABSENT ? ABSENT : dark.leftAtMost(plan, q);
    }

    public int judge(int a) {
        int why = answerTrouble(a);
        if (refused(why == 0 ? darkTrouble() : why)) {
            return NONE;
        }
        for (int i = 0; i < plan.bites; i++) {
            boolean would = plan.wishBy(a, plan.darkHunger, plan.bite[i]) >= BITES_FROM;
            if (would != plan.bit[i]) {
                return i;
            }
        }
        return ABSENT;
    }

    // ---- the market

    public int worth(int a, int landed, int day) {
        int why = answerTrouble(a);
        boolean good = within(landed, 0, LAST_DAY) && within(day, landed, LAST_DAY);
        if (refused(why == 0 && !good ? BAD_NUMBER : why)) {
            return NONE;
        }
        return plan.worthAfter(a, day - landed);
    }

    public int load(int many) {
        if (refused(numberTrouble(within(many, 0, MOST_ANSWERS)))) {
            return NONE;
        }
        return Market.bestLoad(plan, now, many);
    }

    public int loadWorth(int many) {
        if (refused(numberTrouble(within(many, 0, MOST_ANSWERS)))) {
            return NONE;
        }
        return Market.worthTogether(plan, now, Market.bestLoad(plan, now, many), now.today);
    }

    public int bestDay() {
        if (refused(pierTrouble())) {
            return NONE;
        }
        int unsold = Market.unsold(plan, now);
        int best = 0;
        int most = Market.worthTogether(plan, now, unsold, now.today);
        for (int later = 1; later <= DAYS_TO_SELL; later++) {
            int together = Market.worthTogether(plan, now, unsold, now.today + later);
            if (together > most) {
                most = together;
                best = later;
            }
        }
        return best;
    }

    // ---- two hooks, two piers

    public int hooks(int a, int k, int other, int much, boolean ofOther) {
        if (refused(hooksTrouble(a, k, other, much))) {
            return NONE;
        }
        int first = plan.wishFor(a, now.line[k]);
        int second = plan.wishFor(a, now.line[other]);
        int both = first + second;
        if (both == 0) {
            return 0;
        }
        int firstHas = much * first / both;
        int secondHas = much * second / both;
        int left = much - firstHas - secondHas;
        if (ofOther) {
            return first >= second ? secondHas : secondHas + left;
        }
        return first >= second ? firstHas + left : firstHas;
    }

    public int lines(int stock, int one, int other, boolean ofOther) {
        boolean good = within(stock, 0, MOST_STOCK) && within(one, 0, MOST_LINES) && within(other, 0, MOST_LINES);
        if (refused(numberTrouble(good))) {
            return LINES_REFUSED;
        }
        return ofOther ? Stock.gain(stock, other, one) : Stock.gain(stock, one, other);
    }

    public int rests(int stock) {
        if (refused(numberTrouble(within(stock, 0, MOST_STOCK)))) {
            return NONE;
        }
        int many = 0;
        for (int pair = 0; pair < 10 * (MOST_LINES + 1); pair++) {
            if (Stock.isRest(stock, pair)) {
                many++;
            }
        }
        return many;
    }

    public int rest(int stock) {
        if (refused(numberTrouble(within(stock, 0, MOST_STOCK)))) {
            return NONE;
        }
        for (int pair = 0; pair < 10 * (MOST_LINES + 1); pair++) {
            if (Stock.isRest(stock, pair)) {
                return pair;
            }
        }
        return ABSENT;
    }

    // ---- days by draws

    public int landed(int seed, int n) {
        if (refused(numberTrouble(isForecast(seed, n)))) {
            return NONE;
        }
        days.forecast(plan, now, seed, n);
        return days.landedMany;
    }

    public int landedIn(int a, int seed, int n) {
        int why = answerTrouble(a);
        if (refused(why == 0 ? numberTrouble(isForecast(seed, n)) : why)) {
            return NONE;
        }
        days.forecast(plan, now, seed, n);
        return days.landedInDay[a];
    }

    public int crabs(int seed, int n) {
        if (refused(numberTrouble(isForecast(seed, n)))) {
            return NONE;
        }
        days.forecast(plan, now, seed, n);
        return days.crabTakes;
    }

    // ---- acts

    public boolean let(int k, int spot, int fathoms, int bait) {
        if (refused(letTrouble(k, spot, fathoms, bait))) {
            return false;
        }
        history.keep(now);
        now.line[k] = question(spot, fathoms, bait);
        return true;
    }

    public boolean drawIn(int k) {
        int why = askerTrouble(k);
        if (refused(why == 0 && now.line[k] == NONE ? NOT_SO : why)) {
            return false;
        }
        history.keep(now);
        now.line[k] = NONE;
        return true;
    }

    public int sell(int a) {
        int why = answerTrouble(a);
        if (refused(why == 0 && now.stage[a] != LANDED ? NOT_SO : why)) {
            return NONE;
        }
        history.keep(now);
        int price = Market.worthOn(plan, now, a, now.today);
        now.stage[a] = SOLD;
        now.soldFor += price;
        return price;
    }

    public int day() {
        int why = pierTrouble();
        if (refused(why == 0 && now.today >= LAST_DAY ? NO_ROOM : why)) {
            return NONE;
        }
        history.keep(now);
        return days.pass(plan, now);
    }

    public boolean seed(int v) {
        if (refused(numberTrouble(within(v, 0, SEED_BOUND - 1)))) {
            return false;
        }
        now.seedNow = v;
        return true;
    }

    public boolean undo() {
        if (refused(history.acts == 0 ? NOTHING_THERE : 0)) {
            return false;
        }
        history.takeBack(now);
        return true;
    }

    public int mark() {
        int why = pierTrouble();
        if (refused(why == 0 && history.marks >= MOST_MARKS ? NO_ROOM : why)) {
            return NONE;
        }
        return history.setMark(now);
    }

    public boolean back(int mark) {
        if (refused(within(mark, 0, history.marks - 1) ? 0 : NO_SUCH)) {
            return false;
        }
        history.goBack(mark, now);
        return true;
    }

    // ---- what is told

    public int led(int i) throws NoSuchElementException {
        int before = 0;
        for (int a = 0; a < plan.answers; a++) {
            if (now.stage[a] != THERE) {
                if (before == i) {
                    return a;
                }
                before++;
            }
        }
        throw new NoSuchElementException("no such answer was landed");
    }

    public int size(int what) {
        switch (what) {
            case 0: return plan.spots;
            case 1: return plan.deep;
            case 2: return plan.baits;
            case 3: return plan.askers;
            case 4: return plan.answers;
            case 5: return plan.bites;
            case 6: return now.today;
            case 7: return now.seedNow;
            case 8: return now.soldFor;
            case 9: return history.acts;
            case 10: return history.marks;
            case 11: return reader.fed;
            default: return NONE;
        }
    }

    public int trouble() {
        return troubleNow;
    }

    // ---- what calls are refused by: 0 if they aren't

    private boolean refused(int why) {
        troubleNow = why;
        return why != 0;
    }

    private int pierTrouble() {
        return plan.spots == 0 ? NO_SUCH : 0;
    }

    /** Of calls that are refused by 1 without a PIER, then by 2. */
    private int numberTrouble(boolean good) {
        int why = pierTrouble();
        return why == 0 && !good ? BAD_NUMBER : why;
    }

    private int answerTrouble(int a) {
        return plan.hasAnswer(a) ? 0 : NO_SUCH;
    }

    private int thereTrouble(int a) {
        int why = answerTrouble(a);
        return why == 0 && now.stage[a] != THERE ? NOT_SO : why;
    }

    private int askerTrouble(int k) {
        return plan.hasAsker(k) ? 0 : NO_SUCH;
    }

    private int questionTrouble(int spot, int fathoms, int bait) {
        if (!plan.hasSpot(spot) || !plan.hasBait(bait)) {
            return NO_SUCH;
        }
        return within(fathoms, 1, plan.deep) ? 0 : BAD_NUMBER;
    }

    private int wishTrouble(int a, int spot, int fathoms, int bait) {
        int why = answerTrouble(a);
        return why == 0 ? questionTrouble(spot, fathoms, bait) : why;
    }

    private int letTrouble(int k, int spot, int fathoms, int bait) {
        int why = askerTrouble(k);
        if (why == 0) {
            why = questionTrouble(spot, fathoms, bait);
        }
        if (why == 0 && (now.line[k] != NONE || plan.isClose(now.today))) {
            return NOT_SO;
        }
        return why;
    }

    private int hooksTrouble(int a, int k, int other, int much) {
        if (!plan.hasAnswer(a) || !plan.hasAsker(k) || !plan.hasAsker(other) || k == other) {
            return NO_SUCH;
        }
        if (!within(much, 0, MOST_SHARED)) {
            return BAD_NUMBER;
        }
        return now.line[k] == NONE || now.line[other] == NONE ? NOT_SO : 0;
    }

    private int darkTrouble() {
        int why = pierTrouble();
        return why == 0 && plan.darkHunger == NONE ? NOTHING_THERE : why;
    }

    // ---- small helps

    private static boolean within(int number, int least, int most) {
        return number >= least && number <= most;
    }

    private static boolean isForecast(int seed, int n) {
        return within(seed, 0, SEED_BOUND - 1) && within(n, 0, MOST_DAYS_AHEAD);
    }

    private static int question(int spot, int fathoms, int bait) {
        return 100 * spot + 10 * fathoms + bait;
    }

    private static int spotOf(int q) {
        return q / 100;
    }

    private static int fathomsOf(int q) {
        return q / 10 % 10;
    }

    private static int baitOf(int q) {
        return q % 10;
    }

    private int likers(int bait) {
        int many = 0;
        for (int a = 0; a < plan.answers; a++) {
            if (now.stage[a] == THERE && plan.likes[a] == bait) {
                many++;
            }
        }
        return many;
    }

    private int everyAsker() {
        return (1 << plan.askers) - 1;
    }

    /** What the text of a PIER tells; no spots: there is no PIER. */
    private static final class Plan {
        int spots = 0;
        int deep = 0;
        int closeFrom = 0;
        int closeTo = 0;
        int baits = 0;
        int askers = 0;
        int answers = 0;
        int bites = 0;
        /** NONE: nothing dark is told. */
        int darkHunger = NONE;
        final int[] reach = new int[MOST_ASKERS];
        final int[] kind = new int[MOST_ANSWERS];
        final int[] at = new int[MOST_ANSWERS];
        final int[] depth = new int[MOST_ANSWERS];
        final int[] hunger = new int[MOST_ANSWERS];
        final int[] likes = new int[MOST_ANSWERS];
        /** What each answer is worth as told. */
        final int[] told = new int[MOST_ANSWERS];
        final int[] bite = new int[MOST_BITES];
        final boolean[] bit = new boolean[MOST_BITES];

        void clear() {
            spots = 0;
            deep = 0;
            baits = 0;
            askers = 0;
            answers = 0;
            bites = 0;
            darkHunger = NONE;
        }

        boolean hasAnswer(int a) {
            return within(a, 0, answers - 1);
        }

        boolean hasAsker(int k) {
            return within(k, 0, askers - 1);
        }

        boolean hasSpot(int spot) {
            return within(spot, 0, spots - 1);
        }

        boolean hasBait(int bait) {
            return within(bait, 0, baits - 1);
        }

        boolean hasQuestion(int q) {
            return hasSpot(spotOf(q)) && within(fathomsOf(q), 1, deep) && hasBait(baitOf(q));
        }

        /** A bound above all questions' numbers. */
        int questionBound() {
            return 100 * spots;
        }

        boolean isClose(int day) {
            return within(day, closeFrom, closeTo);
        }

        boolean isTangle(int k, int spot, int other, int otherSpot) {
            return Math.abs(spot - otherSpot) <= reach[k] + reach[other];
        }

        int wishFor(int a, int q) {
            return wishBy(a, hunger[a], q);
        }

        /** The WISH of an answer, if its hunger were another one. */
        int wishBy(int a, int asHungry, int q) {
            int wished = asHungry - 10 * Math.abs(spotOf(q) - at[a]);
            if (kind[a] == BOOT) {
                wished -= 20;
            } else if (likes[a] == baitOf(q)) {
                wished += 20;
            }
            if (kind[a] != CRAB) {
                wished -= 8 * Math.abs(fathomsOf(q) - depth[a]);
            }
            return Math.max(0, Math.min(100, wished));
        }

        int worthAfter(int a, int days) {
            if (kind[a] == COLD) {
                return told[a];
            }
            if (kind[a] == BOOT) {
                return Math.min(99, told[a] + days);
            }
            return Math.max(0, told[a] - 5 * days);
        }
    }

    /**
     * Has THE TAPE, and reads a text from it into a Plan, or tells its first FAULT; it stands at one TOKEN,
     * looked at and not yet taken.
     */
    private static final class Reader {
        private static final int END = 0;
        private static final int WORD = 1;
        private static final int WHOLE = 2;
        private static final int SEMICOLON = 3;
        private static final int STRANGE = 4;
        private static final int LONGEST_WORD = 8;
        private static final int LONGEST_WHOLE = 2;

        private final byte[] text = new byte[TAPE_ROOM];
        int fed = 0;
        private int end = 0;
        private int token = END;
        private int start = 0;
        private int behind = 0;
        /** What was taken last: a WHOLE, a KIND, the number of a bait, or 1 for yes. */
        private int value = 0;
        private final long[] name = new long[MOST_BAITS + MOST_ASKERS + MOST_ANSWERS];
        /** Of each NAME the number of its bait; NONE of another sort. */
        private final int[] nameBait = new int[MOST_BAITS + MOST_ASKERS + MOST_ANSWERS];
        private int names = 0;
        int fault = 0;
        int place = NONE;

        void put(int number) {
            for (int shift = 24; shift >= 0 && fed < text.length; shift -= 8) {
                text[fed] = (byte) (number >> shift);
                fed++;
            }
        }

        boolean read(int n, Plan plan) {
            end = Math.min(n, fed);
            fed = 0;
            behind = 0;
            names = 0;
            fault = 0;
            place = NONE;
            plan.clear();
            advance();
            for (int line = 0; line <= end; line++) {
                if (!readLine(plan)) {
                    return false;
                }
                if (token == END) {
                    return plan.baits > 0 || fail(LACKS);
                }
                if (token != SEMICOLON) {
                    return fail(FORM);
                }
                advance();
            }
            return fail(FORM);
        }

        private boolean readLine(Plan plan) {
            if (isWord("pier")) {
                return plan.spots == 0 ? readPier(plan) : fail(TWICE);
            }
            if (isWord("bait")) {
                return opens(plan, plan.baits < MOST_BAITS ? 0 : MANY) && readBait(plan);
            }
            if (isWord("asker")) {
                return opens(plan, plan.askers < MOST_ASKERS ? 0 : MANY) && readAsker(plan);
            }
            if (isWord("answer")) {
                return opens(plan, plan.answers < MOST_ANSWERS ? 0 : MANY) && readAnswer(plan);
            }
            if (isWord("dark")) {
                return opens(plan, plan.darkHunger == NONE ? 0 : TWICE) && readDark(plan);
            }
            if (isWord("bite")) {
                int lacks = plan.darkHunger == NONE ? LACKS : 0;
                return opens(plan, plan.bites < MOST_BITES ? lacks : MANY) && readBite(plan);
            }
            return fail(FORM);
        }

        /** Takes the first WORD of a LINE that isn't the pier's, unless there is a FAULT at it. */
        private boolean opens(Plan plan, int why) {
            if (why != 0) {
                return fail(why);
            }
            if (plan.spots == 0) {
                return fail(LACKS);
            }
            advance();
            return true;
        }

        private boolean readPier(Plan plan) {
            advance();
            if (!takeWord("spots") || !takeWhole(2, 8)) {
                return false;
            }
            plan.spots = value;
            if (!takeWord("deep") || !takeWhole(1, 9)) {
                return false;
            }
            plan.deep = value;
            if (!takeWord("from") || !takeWhole(0, 60)) {
                return false;
            }
            plan.closeFrom = value;
            if (!takeWord("to") || !takeWhole(plan.closeFrom, 60)) {
                return false;
            }
            plan.closeTo = value;
            return true;
        }

        private boolean readBait(Plan plan) {
            if (!takeNewName(plan.baits)) {
                return false;
            }
            plan.baits++;
            return true;
        }

        private boolean readAsker(Plan plan) {
            if (!takeNewName(NONE) || !takeWord("reach") || !takeWhole(0, 3)) {
                return false;
            }
            plan.reach[plan.askers] = value;
            plan.askers++;
            return true;
        }

        private boolean readAnswer(Plan plan) {
            int a = plan.answers;
            if (!takeNewName(NONE) || !takeKind()) {
                return false;
            }
            plan.kind[a] = value;
            if (!takeWord("at") || !takeWhole(0, plan.spots - 1)) {
                return false;
            }
            plan.at[a] = value;
            if (!takeWord("depth") || !takeWhole(1, plan.deep)) {
                return false;
            }
            plan.depth[a] = value;
            if (!takeWord("hunger") || !takeWhole(0, MOST_HUNGER)) {
                return false;
            }
            plan.hunger[a] = value;
            if (!takeWord("likes") || !takeBait()) {
                return false;
            }
            plan.likes[a] = value;
            if (!takeWord("worth") || !takeWhole(0, 99)) {
                return false;
            }
            plan.told[a] = value;
            plan.answers++;
            return true;
        }

        private boolean readDark(Plan plan) {
            if (!takeWord("hunger") || !takeWhole(0, MOST_HUNGER)) {
                return false;
            }
            plan.darkHunger = value;
            return true;
        }

        private boolean readBite(Plan plan) {
            if (!takeWhole(0, plan.spots - 1)) {
                return false;
            }
            int spot = value;
            if (!takeWord("fathoms") || !takeWhole(1, plan.deep)) {
                return false;
            }
            int fathoms = value;
            if (!takeWord("bait") || !takeBait()) {
                return false;
            }
            plan.bite[plan.bites] = question(spot, fathoms, value);
            if (!takeYes()) {
                return false;
            }
            plan.bit[plan.bites] = value == 1;
            plan.bites++;
            return true;
        }

        private boolean takeWord(String word) {
            if (!isWord(word)) {
                return fail(FORM);
            }
            advance();
            return true;
        }

        private boolean takeWhole(int least, int most) {
            if (token != WHOLE) {
                return fail(FORM);
            }
            int whole = 0;
            for (int i = start; i < behind; i++) {
                whole = 10 * whole + text[i] - '0';
            }
            if (!within(whole, least, most)) {
                return fail(BOUNDS);
            }
            value = whole;
            advance();
            return true;
        }

        private boolean takeKind() {
            if (isWord("plain")) {
                value = PLAIN;
            } else if (isWord("cold")) {
                value = COLD;
            } else if (isWord("crab")) {
                value = CRAB;
            } else if (isWord("boot")) {
                value = BOOT;
            } else {
                return fail(FORM);
            }
            advance();
            return true;
        }

        private boolean takeYes() {
            if (!isWord("yes") && !isWord("no")) {
                return fail(FORM);
            }
            value = isWord("yes") ? 1 : 0;
            advance();
            return true;
        }

        private boolean takeNewName(int bait) {
            if (!isName()) {
                return fail(FORM);
            }
            long code = wordCode();
            if (nameOf(code) != NONE || names >= name.length) {
                return fail(TWICE);
            }
            name[names] = code;
            nameBait[names] = bait;
            names++;
            advance();
            return true;
        }

        private boolean takeBait() {
            if (!isName()) {
                return fail(FORM);
            }
            int i = nameOf(wordCode());
            if (i == NONE || nameBait[i] == NONE) {
                return fail(UNTOLD);
            }
            value = nameBait[i];
            advance();
            return true;
        }

        private boolean fail(int number) {
            fault = number;
            place = start;
            return false;
        }

        private boolean isName() {
            return token == WORD && !isWord("pier") && !isWord("bait") && !isWord("asker")
                    && !isWord("answer") && !isWord("dark") && !isWord("bite");
        }

        private boolean isWord(String word) {
            if (token != WORD || behind - start != word.length()) {
                return false;
            }
            for (int i = 0; i < word.length(); i++) {
                if (text[start + i] != word.charAt(i)) {
                    return false;
                }
            }
            return true;
        }

        /** A WORD as a number: eight letters of five bits each fit into a long. */
        private long wordCode() {
            long code = 0;
            for (int i = start; i < behind; i++) {
                code = 32 * code + text[i] - 'a' + 1;
            }
            return code;
        }

        private int nameOf(long code) {
            for (int i = 0; i < names; i++) {
                if (name[i] == code) {
                    return i;
                }
            }
            return NONE;
        }

        private void advance() {
            start = behind;
            while (start < end && text[start] == ' ') {
                start++;
            }
            behind = start;
            if (start >= end) {
                token = END;
            } else if (isLetter(start)) {
                while (behind < end && isLetter(behind)) {
                    behind++;
                }
                token = behind - start <= LONGEST_WORD ? WORD : STRANGE;
            } else if (isDigit(start)) {
                while (behind < end && isDigit(behind)) {
                    behind++;
                }
                token = behind - start <= LONGEST_WHOLE ? WHOLE : STRANGE;
            } else {
                token = text[start] == ';' ? SEMICOLON : STRANGE;
                behind++;
            }
        }

        private boolean isLetter(int i) {
            return text[i] >= 'a' && text[i] <= 'z';
        }

        private boolean isDigit(int i) {
            return text[i] >= '0' && text[i] <= '9';
        }
    }

    /** All that ACTS change. */
    private static final class Now {
        int today = 0;
        int seedNow = 0;
        int soldFor = 0;
        final int[] stage = new int[MOST_ANSWERS];
        final int[] landedOn = new int[MOST_ANSWERS];
        final int[] landedBy = new int[MOST_ANSWERS];
        /** The question that each asker has let down; NONE: his line is in. */
        final int[] line = new int[MOST_ASKERS];

        void begin() {
            today = 0;
            seedNow = 0;
            soldFor = 0;
            for (int a = 0; a < stage.length; a++) {
                stage[a] = THERE;
            }
            for (int k = 0; k < line.length; k++) {
                line[k] = NONE;
            }
        }

        void become(Now other) {
            today = other.today;
            seedNow = other.seedNow;
            soldFor = other.soldFor;
            System.arraycopy(other.stage, 0, stage, 0, stage.length);
            System.arraycopy(other.landedOn, 0, landedOn, 0, landedOn.length);
            System.arraycopy(other.landedBy, 0, landedBy, 0, landedBy.length);
            letDownAs(other);
        }

        void letDownAs(Now other) {
            System.arraycopy(other.line, 0, line, 0, line.length);
        }

        void land(int a, int k) {
            stage[a] = LANDED;
            landedOn[a] = today;
            landedBy[a] = k;
        }

        int landedBits(int answers, int k) {
            int bits = 0;
            for (int a = 0; a < answers; a++) {
                if (stage[a] != THERE && landedBy[a] == k) {
                    bits |= 1 << a;
                }
            }
            return bits;
        }

        /** Whether the line of one asker, from a spot, TANGLES with one of the others that is out. */
        boolean isTangled(Plan plan, int k, int spot) {
            for (int other = 0; other < plan.askers; other++) {
                if (other != k && line[other] != NONE && plan.isTangle(k, spot, other, spotOf(line[other]))) {
                    return true;
                }
            }
            return false;
        }

        int draw() {
            seedNow = (75 * seedNow + 74) % SEED_BOUND;
            return seedNow % 100;
        }
    }

    /** What was ahead of the latest ACTS, the oldest going first if there are too many, and MARKS. */
    private static final class History {
        private final Now[] kept = new Now[MOST_ACTS];
        private final Now[] marked = new Now[MOST_MARKS];
        private int oldest = 0;
        int acts = 0;
        int marks = 0;

        History() {
            for (int i = 0; i < kept.length; i++) {
                kept[i] = new Now();
            }
            for (int i = 0; i < marked.length; i++) {
                marked[i] = new Now();
            }
        }

        void forgetAll() {
            acts = 0;
            marks = 0;
        }

        void keep(Now now) {
            kept[(oldest + acts) % MOST_ACTS].become(now);
            if (acts < MOST_ACTS) {
                acts++;
            } else {
                oldest = (oldest + 1) % MOST_ACTS;
            }
        }

        void takeBack(Now now) {
            if (acts > 0) {
                acts--;
                now.become(kept[(oldest + acts) % MOST_ACTS]);
            }
        }

        int setMark(Now now) {
            if (marks >= MOST_MARKS) {
                return NONE;
            }
            marked[marks].become(now);
            marks++;
            return marks - 1;
        }

        void goBack(int mark, Now now) {
            if (within(mark, 0, marks - 1)) {
                now.become(marked[mark]);
                acts = 0;
            }
        }
    }

    /** How likely questions are taken, in parts of ALL. */
    private static final class Odds {
        /** Far above the steps that the greatest common part of two numbers below a hundred times ALL can need. */
        private static final int MOST_STEPS = 1000;

        /** How likely an answer takes a question; of NONE, how likely nothing does. */
        static long chance(Plan plan, Now now, int a, int q) {
            long left = ALL;
            for (int b = 0; b < plan.answers; b++) {
                if (now.stage[b] == THERE) {
                    long taken = left / 100 * plan.wishFor(b, q);
                    if (b == a) {
                        return taken;
                    }
                    left -= taken;
                }
            }
            return a == NONE ? left : 0;
        }

        static long meanWorth(Plan plan, Now now, int q) {
            long together = 0;
            for (int a = 0; a < plan.answers; a++) {
                if (plan.kind[a] != CRAB) {
                    together += plan.told[a] * chance(plan, now, a, q);
                }
            }
            return together;
        }

        static int likeliestTaker(Plan plan, Now now, int q) {
            int best = ABSENT;
            long most = 0;
            for (int a = 0; a < plan.answers; a++) {
                long likely = chance(plan, now, a, q);
                if (likely > most) {
                    most = likely;
                    best = a;
                }
            }
            return best;
        }

        static int surestQuestion(Plan plan, Now now, int a) {
            int best = ABSENT;
            long most = 0;
            for (int q = 0; q < plan.questionBound(); q++) {
                long likely = plan.hasQuestion(q) ? chance(plan, now, a, q) : 0;
                if (likely > most) {
                    most = likely;
                    best = q;
                }
            }
            return best;
        }

        static int worthiestQuestion(Plan plan, Now now) {
            int best = ABSENT;
            long most = 0;
            for (int q = 0; q < plan.questionBound(); q++) {
                long value = plan.hasQuestion(q) ? meanWorth(plan, now, q) : 0;
                if (value > most) {
                    most = value;
                    best = q;
                }
            }
            return best;
        }

        /** Parts of ALL in lowest terms: the upper WHOLE, or the lower. */
        static long term(long parts, boolean lower) {
            long common = commonPart(ALL, parts);
            if (common == 0) {
                return 0;
            }
            return (lower ? ALL : parts) / common;
        }

        private static long commonPart(long one, long other) {
            long a = one;
            long b = other;
            for (int step = 0; step < MOST_STEPS && b != 0; step++) {
                long over = a % b;
                a = b;
                b = over;
            }
            return a;
        }
    }

    /** Rows of SEATS. */
    private static final class Seats {
        private final int[] row = new int[MOST_ASKERS];
        /** The first row that was found; it tells nothing if none was. */
        final int[] first = new int[MOST_ASKERS];
        private int found = 0;

        /** How many rows there are for some askers, as bits; no more than enough are looked for. */
        int countRows(Plan plan, int bits, int enough) {
            found = 0;
            fill(plan, 0, bits, enough);
            return found;
        }

        private void fill(Plan plan, int k, int bits, int enough) {
            if (k >= plan.askers || k >= row.length) {
                keepRow();
                return;
            }
            if ((bits >> k & 1) == 0) {
                row[k] = NONE;
                fill(plan, k + 1, bits, enough);
                return;
            }
            for (int spot = 0; spot < plan.spots && found < enough; spot++) {
                if (isFree(plan, k, spot)) {
                    row[k] = spot;
                    fill(plan, k + 1, bits, enough);
                }
            }
        }

        private void keepRow() {
            if (found == 0) {
                System.arraycopy(row, 0, first, 0, row.length);
            }
            found++;
        }

        private boolean isFree(Plan plan, int k, int spot) {
            for (int other = 0; other < k; other++) {
                if (row[other] != NONE && plan.isTangle(k, spot, other, row[other])) {
                    return false;
                }
            }
            return true;
        }
    }

    /** Where the one in the dark may be. */
    private static final class Dark {
        private static final int MOST_PLACES = 8 * 9 * MOST_BAITS;

        final int[] place = new int[MOST_PLACES];
        int many = 0;

        void find(Plan plan) {
            many = 0;
            for (int p = 0; p < plan.questionBound(); p++) {
                if (plan.hasQuestion(p) && isAsTold(plan, p) && many < place.length) {
                    place[many] = p;
                    many++;
                }
            }
        }

        /** ASK, of the places that were found. */
        int tellingQuestion(Plan plan) {
            int best = ABSENT;
            int fewest = many;
            for (int q = 0; q < plan.questionBound() && many > 0; q++) {
                if (plan.hasQuestion(q)) {
                    int left = leftAtMost(plan, q);
                    if (best == ABSENT || left < fewest) {
                        fewest = left;
                        best = q;
                    }
                }
            }
            return best;
        }

        int leftAtMost(Plan plan, int q) {
            int biting = 0;
            for (int i = 0; i < many; i++) {
                if (wouldBite(plan.darkHunger, place[i], q)) {
                    biting++;
                }
            }
            return Math.max(biting, many - biting);
        }

        private static boolean isAsTold(Plan plan, int p) {
            for (int i = 0; i < plan.bites; i++) {
                if (wouldBite(plan.darkHunger, p, plan.bite[i]) != plan.bit[i]) {
                    return false;
                }
            }
            return true;
        }

        /** No need to keep the WISH within 0 and 100 to see whether it is 50 or more. */
        private static boolean wouldBite(int hunger, int p, int q) {
            int wished = hunger + (baitOf(p) == baitOf(q) ? 20 : 0)
                    - 10 * Math.abs(spotOf(p) - spotOf(q))
                    - 8 * Math.abs(fathomsOf(p) - fathomsOf(q));
            return wished >= BITES_FROM;
        }
    }

    /** What is landed, and worth. */
    private static final class Market {
        static int worthOn(Plan plan, Now now, int a, int day) {
            return plan.worthAfter(a, day - now.landedOn[a]);
        }

        static int unsold(Plan plan, Now now) {
            int bits = 0;
            for (int a = 0; a < plan.answers; a++) {
                if (now.stage[a] == LANDED) {
                    bits |= 1 << a;
                }
            }
            return bits;
        }

        static int worthTogether(Plan plan, Now now, int bits, int day) {
            int together = 0;
            for (int a = 0; a < plan.answers; a++) {
                if ((bits >> a & 1) == 1) {
                    together += worthOn(plan, now, a, day);
                }
            }
            return together;
        }

        static int bestLoad(Plan plan, Now now, int many) {
            int unsold = unsold(plan, now);
            int best = 0;
            int most = 0;
            for (int bits = 1; bits <= unsold; bits++) {
                if ((bits & ~unsold) == 0 && Integer.bitCount(bits) <= many) {
                    int together = worthTogether(plan, now, bits, now.today);
                    boolean fewer = Integer.bitCount(bits) < Integer.bitCount(best);
                    if (together > most || together == most && fewer) {
                        most = together;
                        best = bits;
                    }
                }
            }
            return best;
        }
    }

    /** Two piers over one stock. */
    private static final class Stock {
        static int gain(int stock, int own, int others) {
            int all = own + others;
            if (all == 0) {
                return 0;
            }
            return stock * own / all - 2 * own;
        }

        /** A pair is 10 times the one's lines and the other one's. */
        static boolean isRest(int stock, int pair) {
            int one = pair / 10;
            int other = pair % 10;
            return other <= MOST_LINES && isBestAlone(stock, one, other) && isBestAlone(stock, other, one);
        }

        private static boolean isBestAlone(int stock, int own, int others) {
            for (int instead = 0; instead <= MOST_LINES; instead++) {
                if (gain(stock, instead, others) > gain(stock, own, others)) {
                    return false;
                }
            }
            return true;
        }
    }

    /** DAYS by DRAWS, and what would come of them. */
    private static final class Days {
        private final Now ahead = new Now();
        int landedMany = 0;
        int crabTakes = 0;
        final int[] landedInDay = new int[MOST_ANSWERS];

        void forecast(Plan plan, Now now, int seed, int n) {
            ahead.become(now);
            ahead.seedNow = seed;
            landedMany = 0;
            crabTakes = 0;
            for (int a = 0; a < landedInDay.length; a++) {
                landedInDay[a] = 0;
            }
            for (int i = 1; i <= n; i++) {
                ahead.letDownAs(now);
                note(pass(plan, ahead), i);
            }
        }

        private void note(int bits, int i) {
            landedMany += Integer.bitCount(bits);
            for (int a = 0; a < landedInDay.length; a++) {
                if ((bits >> a & 1) == 1) {
                    landedInDay[a] = i;
                }
            }
        }

        /** One DAY; answers landed in it, as bits. */
        int pass(Plan plan, Now now) {
            int bits = 0;
            if (!plan.isClose(now.today)) {
                int fishing = untangled(plan, now);
                for (int k = 0; k < plan.askers; k++) {
                    int a = (fishing >> k & 1) == 1 ? taker(plan, now, now.line[k]) : NONE;
                    if (a != NONE) {
                        bits |= taken(plan, now, k, a);
                    }
                }
            }
            now.today++;
            return bits;
        }

        /** Told apart ahead of all draws, as a line that is drawn in by a taker frees no other one that day. */
        private static int untangled(Plan plan, Now now) {
            int bits = 0;
            for (int k = 0; k < plan.askers; k++) {
                if (now.line[k] != NONE && !now.isTangled(plan, k, spotOf(now.line[k]))) {
                    bits |= 1 << k;
                }
            }
            return bits;
        }

        private int taken(Plan plan, Now now, int k, int a) {
            now.line[k] = NONE;
            if (plan.kind[a] == CRAB) {
                crabTakes++;
                return 0;
            }
            now.land(a, k);
            return 1 << a;
        }

        private static int taker(Plan plan, Now now, int q) {
            for (int a = 0; a < plan.answers; a++) {
                if (now.stage[a] == THERE && now.draw() < plan.wishFor(a, q)) {
                    return a;
                }
            }
            return NONE;
        }
    }
}
