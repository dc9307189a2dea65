import java.math.BigInteger;
import java.util.ArrayList;
import java.util.Arrays;
import java.util.HashMap;
import java.util.List;
import java.util.Map;
import java.util.NoSuchElementException;
import java.util.Random;

/**
 * Random runs of calls, each answered by HookPier and by a second telling of the document that is written
 * as differently as may be (lists, fractions, all rows tried), so that a slip in one of the two shows.
 */
public final class HookPierModel {
    private static final int RUNS = 1500;
    private static final int CALLS = 400;

    // ---- the text

    static final class Fault extends RuntimeException {
        final int number;
        final int place;

        Fault(int number, int place) {
            this.number = number;
            this.place = place;
        }
    }

    record Token(String text, int place) {
        boolean isWord() {
            return text.matches("[a-z]{1,8}");
        }

        boolean isWhole() {
            return text.matches("[0-9]{1,2}");
        }
    }

    record Question(int spot, int fathoms, int bait) {
        int code() {
            return 100 * spot + 10 * fathoms + bait;
        }
    }

    record Answer(String kind, int spot, int depth, int hunger, int likes, int worth) {
        Answer withHunger(int h) {
            return new Answer(kind, spot, depth, h, likes, worth);
        }

        int wish(Question q) {
            int w = hunger;
            w += kind.equals("boot") ? -20 : likes == q.bait ? 20 : 0;
            w -= 10 * Math.abs(spot - q.spot);
            w -= kind.equals("crab") ? 0 : 8 * Math.abs(depth - q.fathoms);
            return w < 0 ? 0 : w > 100 ? 100 : w;
        }

        int worthAfter(int days) {
            int w = worth;
            for (int i = 0; i < days; i++) {
                if (kind.equals("boot")) {
                    w = w < 99 ? w + 1 : w;
                } else if (!kind.equals("cold")) {
                    w = w < 5 ? 0 : w - 5;
                }
            }
            return w;
        }
    }

    record Bite(Question q, boolean yes) {
    }

    static final class Text {
        int spots;
        int deep;
        int from;
        int to;
        final List<Integer> reaches = new ArrayList<>();
        final List<Answer> answers = new ArrayList<>();
        final List<Bite> bites = new ArrayList<>();
        final Map<String, Integer> baits = new HashMap<>();
        final List<String> names = new ArrayList<>();
        Integer dark;

        List<Question> questions() {
            List<Question> all = new ArrayList<>();
            for (int s = 0; s < spots; s++) {
                for (int f = 1; f <= deep; f++) {
                    for (int b = 0; b < baits.size(); b++) {
                        all.add(new Question(s, f, b));
                    }
                }
            }
            return all;
        }
    }

    static final class Parser {
        final List<Token> tokens = new ArrayList<>();
        int i = 0;
        final Text t = new Text();

        static boolean isSmall(char c) {
            return c >= 'a' && c <= 'z';
        }

        static boolean isDigit(char c) {
            return c >= '0' && c <= '9';
        }

        Parser(String s) {
            int p = 0;
            while (p < s.length()) {
                int q = p + 1;
                if (isSmall(s.charAt(p))) {
                    while (q < s.length() && isSmall(s.charAt(q))) {
                        q++;
                    }
                } else if (isDigit(s.charAt(p))) {
                    while (q < s.length() && isDigit(s.charAt(q))) {
                        q++;
                    }
                }
                if (s.charAt(p) != ' ') {
                    tokens.add(new Token(s.substring(p, q), p));
                }
                p = q;
            }
            tokens.add(new Token("", s.length()));
        }

        Token next() {
            return tokens.get(i++);
        }

        void literal(String w) {
            Token k = next();
            if (!k.text.equals(w)) {
                throw new Fault(1, k.place);
            }
        }

        int whole(int lo, int hi) {
            Token k = next();
            if (!k.isWhole()) {
                throw new Fault(1, k.place);
            }
            int v = Integer.parseInt(k.text);
            if (v < lo || v > hi) {
                throw new Fault(4, k.place);
            }
            return v;
        }

        String name() {
            Token k = next();
            if (!k.isWord() || Arrays.asList("pier", "bait", "asker", "answer", "dark", "bite").contains(k.text)) {
                throw new Fault(1, k.place);
            }
            return k.text;
        }

        String told() {
            int place = tokens.get(i).place;
            String n = name();
            if (t.names.contains(n)) {
                throw new Fault(3, place);
            }
            t.names.add(n);
            return n;
        }

        int bait() {
            int place = tokens.get(i).place;
            String n = name();
            if (!t.baits.containsKey(n)) {
                throw new Fault(2, place);
            }
            return t.baits.get(n);
        }

        String oneOf(String... words) {
            Token k = next();
            if (!Arrays.asList(words).contains(k.text)) {
                throw new Fault(1, k.place);
            }
            return k.text;
        }

        void many(boolean full, int place) {
            if (full) {
                throw new Fault(5, place);
            }
        }

        void line(boolean first) {
            int place = tokens.get(i).place;
            String sort = oneOf("pier", "bait", "asker", "answer", "dark", "bite");
            if (sort.equals("pier") != first) {
                throw new Fault(first ? 6 : 3, place);
            }
            switch (sort) {
                case "pier" -> {
                    literal("spots");
                    t.spots = whole(2, 8);
                    literal("deep");
                    t.deep = whole(1, 9);
                    literal("from");
                    t.from = whole(0, 60);
                    literal("to");
                    t.to = whole(t.from, 60);
                }
                case "bait" -> {
                    many(t.baits.size() == 4, place);
                    t.baits.put(told(), t.baits.size());
                }
                case "asker" -> {
                    many(t.reaches.size() == 5, place);
                    told();
                    literal("reach");
                    t.reaches.add(whole(0, 3));
                }
                case "answer" -> {
                    many(t.answers.size() == 6, place);
                    told();
                    answer(oneOf("plain", "cold", "crab", "boot"));
                }
                case "dark" -> {
                    if (t.dark != null) {
                        throw new Fault(3, place);
                    }
                    literal("hunger");
                    t.dark = whole(0, 99);
                }
                default -> {
                    many(t.bites.size() == 6, place);
                    if (t.dark == null) {
                        throw new Fault(6, place);
                    }
                    int s = whole(0, t.spots - 1);
                    literal("fathoms");
                    int f = whole(1, t.deep);
                    literal("bait");
                    Question q = new Question(s, f, bait());
                    t.bites.add(new Bite(q, oneOf("yes", "no").equals("yes")));
                }
            }
        }

        void answer(String kind) {
            literal("at");
            int s = whole(0, t.spots - 1);
            literal("depth");
            int d = whole(1, t.deep);
            literal("hunger");
            int h = whole(0, 99);
            literal("likes");
            int l = bait();
            literal("worth");
            t.answers.add(new Answer(kind, s, d, h, l, whole(0, 99)));
        }

        Text parse() {
            line(true);
            while (!tokens.get(i).text.isEmpty()) {
                literal(";");
                line(false);
            }
            if (t.baits.isEmpty()) {
                throw new Fault(6, tokens.get(i).place);
            }
            return t;
        }
    }

    // ---- now

    static final class State {
        int day;
        int seed;
        int sold;
        Map<Integer, Integer> landedOn = new HashMap<>();
        Map<Integer, Integer> landedBy = new HashMap<>();
        List<Integer> soldOnes = new ArrayList<>();
        Map<Integer, Question> lines = new HashMap<>();

        State copy() {
            State s = new State();
            s.day = day;
            s.seed = seed;
            s.sold = sold;
            s.landedOn = new HashMap<>(landedOn);
            s.landedBy = new HashMap<>(landedBy);
            s.soldOnes = new ArrayList<>(soldOnes);
            s.lines = new HashMap<>(lines);
            return s;
        }
    }

    record Share(BigInteger up, BigInteger low) {
        static final Share ZERO = new Share(BigInteger.ZERO, BigInteger.ONE);

        static Share of(long u, long l) {
            return new Share(BigInteger.valueOf(u), BigInteger.valueOf(l));
        }

        Share times(Share o) {
            return new Share(up.multiply(o.up), low.multiply(o.low)).lowest();
        }

        Share plus(Share o) {
            return new Share(up.multiply(o.low).add(o.up.multiply(low)), low.multiply(o.low)).lowest();
        }

        Share lowest() {
            BigInteger g = up.gcd(low);
            return new Share(up.divide(g), low.divide(g));
        }

        boolean above(Share o) {
            return up.multiply(o.low).compareTo(o.up.multiply(low)) > 0;
        }

        long term(boolean lower) {
            return (lower ? low : up).longValueExact();
        }
    }

    static final class Refused extends RuntimeException {
        final int why;

        Refused(int why) {
            this.why = why;
        }
    }

    static void need(boolean good, int why) {
        if (!good) {
            throw new Refused(why);
        }
    }

    private StringBuilder tape = new StringBuilder();
    private Text t;
    private State now = new State();
    private final List<State> past = new ArrayList<>();
    private final List<State> marks = new ArrayList<>();
    private int trouble;
    private int fault;
    private int place = -1;

    int answers() {
        return t == null ? 0 : t.answers.size();
    }

    int askers() {
        return t == null ? 0 : t.reaches.size();
    }

    void needPier() {
        need(t != null, 1);
    }

    void needAnswer(int a) {
        need(a >= 0 && a < answers(), 1);
    }

    void needAsker(int k) {
        need(k >= 0 && k < askers(), 1);
    }

    void needBetween(int v, int lo, int hi) {
        need(v >= lo && v <= hi, 2);
    }

    Question needQuestion(int s, int f, int b) {
        needPier();
        need(s >= 0 && s < t.spots && b >= 0 && b < t.baits.size(), 1);
        needBetween(f, 1, t.deep);
        return new Question(s, f, b);
    }

    void needDark() {
        needPier();
        need(t.dark != null, 6);
    }

    boolean isThere(int a) {
        return !now.landedOn.containsKey(a);
    }

    boolean isClose(int day) {
        return !(day < t.from || day > t.to);
    }

    int keeps(State s, int a, int day) {
        return t.answers.get(a).worthAfter(day - s.landedOn.get(a));
    }

    List<Share> takers(Question q) {
        List<Share> all = new ArrayList<>();
        Share left = Share.of(1, 1);
        for (int a = 0; a < answers(); a++) {
            int w = isThere(a) ? t.answers.get(a).wish(q) : 0;
            all.add(left.times(Share.of(w, 100)).lowest());
            left = left.times(Share.of(100 - w, 100));
        }
        all.add(left.lowest());
        return all;
    }

    Share meanOf(Question q) {
        Share sum = Share.ZERO;
        List<Share> all = takers(q);
        for (int a = 0; a < answers(); a++) {
            if (!t.answers.get(a).kind.equals("crab")) {
                sum = sum.plus(all.get(a).times(Share.of(t.answers.get(a).worth, 1)));
            }
        }
        return sum;
    }

    Question surestFor(int a) {
        Question best = null;
        Share most = Share.ZERO;
        for (Question q : t.questions()) {
            Share s = takers(q).get(a);
            if (s.above(most)) {
                most = s;
                best = q;
            }
        }
        return best;
    }

    boolean tangle(int k, int s, int o, int os) {
        int far = s > os ? s - os : os - s;
        return far <= t.reaches.get(k) + t.reaches.get(o);
    }

    boolean tangledNow(State st, int k, int s) {
        for (int o : st.lines.keySet()) {
            if (o != k && tangle(k, s, o, st.lines.get(o).spot)) {
                return true;
            }
        }
        return false;
    }

    /** All rows for the askers of the bits, each as the spots of all askers, -1 for those left out. */
    List<int[]> rows(int bits) {
        List<int[]> all = new ArrayList<>();
        all.add(new int[0]);
        for (int k = 0; k < askers(); k++) {
            List<int[]> longer = new ArrayList<>();
            for (int[] row : all) {
                for (int s = -1; s < t.spots; s++) {
                    if (s >= 0 == ((bits >> k & 1) == 1)) {
                        int[] r = Arrays.copyOf(row, k + 1);
                        r[k] = s;
                        longer.add(r);
                    }
                }
            }
            int mine = k;
            longer.removeIf(r -> {
                for (int o = 0; o < mine; o++) {
                    if (r[o] >= 0 && r[mine] >= 0 && (r[o] == r[mine] || tangle(o, r[o], mine, r[mine]))) {
                        return true;
                    }
                }
                return false;
            });
            all = longer;
        }
        return all;
    }

    boolean darkBites(Question at, Question q) {
        return new Answer("plain", at.spot, at.fathoms, t.dark, at.bait, 0).wish(q) >= 50;
    }

    List<Question> darkPlaces() {
        List<Question> all = t.questions();
        for (Bite b : t.bites) {
            all.removeIf(p -> darkBites(p, b.q) != b.yes);
        }
        return all;
    }

    /** The question and how many it leaves, or null. */
    int[] askNow() {
        List<Question> may = darkPlaces();
        if (may.isEmpty()) {
            return null;
        }
        int[] best = null;
        for (Question q : t.questions()) {
            int yes = (int) may.stream().filter(p -> darkBites(p, q)).count();
            int left = Math.max(yes, may.size() - yes);
            if (best == null || left < best[1]) {
                best = new int[] {q.code(), left};
            }
        }
        return best;
    }

    int worthOf(int bits, int day) {
        int sum = 0;
        for (int a = 0; a < 6; a++) {
            if ((bits >> a & 1) == 1) {
                sum += keeps(now, a, day);
            }
        }
        return sum;
    }

    int unsold() {
        int bits = 0;
        for (int a : now.landedOn.keySet()) {
            bits |= now.soldOnes.contains(a) ? 0 : 1 << a;
        }
        return bits;
    }

    int loadOf(int many) {
        int best = 0;
        for (int bits = 0; bits < 64; bits++) {
            if ((bits | unsold()) != unsold() || Integer.bitCount(bits) > many) {
                continue;
            }
            int more = worthOf(bits, now.day) - worthOf(best, now.day);
            int fewer = Integer.bitCount(best) - Integer.bitCount(bits);
            if (more > 0 || more == 0 && fewer > 0) {
                best = bits;
            }
        }
        return best;
    }

    static int has(int stock, int own, int others) {
        return own == 0 ? 0 : Math.floorDiv(stock * own, own + others) - 2 * own;
    }

    static List<Integer> restsOf(int stock) {
        List<Integer> all = new ArrayList<>();
        for (int one = 0; one <= 6; one++) {
            for (int other = 0; other <= 6; other++) {
                boolean rest = true;
                for (int x = 0; x <= 6; x++) {
                    rest &= has(stock, x, other) <= has(stock, one, other);
                    rest &= has(stock, x, one) <= has(stock, other, one);
                }
                if (rest) {
                    all.add(10 * one + other);
                }
            }
        }
        return all;
    }

    /** One DAY of a state: what took, in order, each as asker, answer. */
    List<int[]> pass(State s) {
        List<int[]> took = new ArrayList<>();
        State begin = s.copy();
        for (int k = 0; k < askers() && !isClose(begin.day); k++) {
            Question q = begin.lines.get(k);
            if (q == null || tangledNow(begin, k, q.spot)) {
                continue;
            }
            for (int a = 0; a < answers(); a++) {
                if (s.landedOn.containsKey(a)) {
                    continue;
                }
                s.seed = (int) ((75L * s.seed + 74) % 65537);
                if (s.seed % 100 < t.answers.get(a).wish(q)) {
                    took.add(new int[] {k, a});
                    s.lines.remove(k);
                    if (!t.answers.get(a).kind.equals("crab")) {
                        s.landedOn.put(a, s.day);
                        s.landedBy.put(a, k);
                    }
                    break;
                }
            }
        }
        s.day++;
        return took;
    }

    /** How many are landed, crabs that took, the day of answer a. */
    int[] ahead(int a, int seed, int n) {
        State s = now.copy();
        s.seed = seed;
        int[] out = new int[3];
        for (int i = 1; i <= n; i++) {
            s.lines = new HashMap<>(now.lines);
            for (int[] kt : pass(s)) {
                if (t.answers.get(kt[1]).kind.equals("crab")) {
                    out[1]++;
                } else {
                    out[0]++;
                    out[2] = kt[1] == a ? i : out[2];
                }
            }
        }
        return out;
    }

    void keepPast() {
        past.add(now.copy());
        if (past.size() > 16) {
            past.remove(0);
        }
    }

    long pier(int n) {
        need(n >= 0 && n <= tape.length(), 2);
        String text = tape.substring(0, n);
        tape.setLength(0);
        try {
            t = new Parser(text).parse();
            fault = 0;
        } catch (Fault f) {
            fault = f.number;
            place = f.place;
            throw new Refused(4);
        }
        now = new State();
        past.clear();
        marks.clear();
        return t.answers.size();
    }

    long answer(int a, int what) {
        needAnswer(a);
        need(what >= 0 && what <= 9, 1);
        Answer x = t.answers.get(a);
        boolean out = !isThere(a);
        boolean sold = now.soldOnes.contains(a);
        return switch (what) {
            case 0 -> Arrays.asList("plain", "cold", "crab", "boot").indexOf(x.kind);
            case 1 -> x.spot;
            case 2 -> x.depth;
            case 3 -> x.hunger;
            case 4 -> x.likes;
            case 5 -> x.worth;
            case 6 -> sold ? 2 : out ? 1 : 0;
            case 7 -> out ? now.landedOn.get(a) : -2;
            case 8 -> out ? now.landedBy.get(a) : -2;
            default -> out && !sold ? keeps(now, a, now.day) : -2;
        };
    }

    long asker(int k, int what) {
        needAsker(k);
        need(what >= 0 && what <= 5, 1);
        Question q = now.lines.get(k);
        int bits = 0;
        for (int a : now.landedBy.keySet()) {
            bits |= now.landedBy.get(a) == k ? 1 << a : 0;
        }
        return switch (what) {
            case 0 -> t.reaches.get(k);
            case 1 -> q == null ? -2 : q.spot;
            case 2 -> q == null ? -2 : q.fathoms;
            case 3 -> q == null ? -2 : q.bait;
            case 4 -> bits;
            default -> q != null && tangledNow(now, k, q.spot) ? 1 : 0;
        };
    }

    long hooks(int a, int k, int o, int much, boolean ofOther) {
        needAnswer(a);
        needAsker(k);
        needAsker(o);
        need(k != o, 1);
        needBetween(much, 0, 999);
        need(now.lines.containsKey(k) && now.lines.containsKey(o), 5);
        int w = t.answers.get(a).wish(now.lines.get(k));
        int v = t.answers.get(a).wish(now.lines.get(o));
        if (w + v == 0) {
            return 0;
        }
        // the favoured one has all that the other one's part, downwards, leaves
        if (w >= v) {
            int others = much * v / (w + v);
            return ofOther ? others : much - others;
        }
        int firsts = much * w / (w + v);
        return ofOther ? much - firsts : firsts;
    }

    long sizeOf(int what) {
        return switch (what) {
            case 0 -> t == null ? 0 : t.spots;
            case 1 -> t == null ? 0 : t.deep;
            case 2 -> t == null ? 0 : t.baits.size();
            case 3 -> askers();
            case 4 -> answers();
            case 5 -> t == null ? 0 : t.bites.size();
            case 6 -> now.day;
            case 7 -> now.seed;
            case 8 -> now.sold;
            case 9 -> past.size();
            case 10 -> marks.size();
            case 11 -> tape.length();
            default -> -1;
        };
    }

    /** The answer to a call by its name; a boolean counts 1 or 0. */
    long tell(String call, int[] p, boolean flag) {
        Question q;
        switch (call) {
            case "pier": return pier(p[0]);
            case "answer": return answer(p[0], p[1]);
            case "asker": return asker(p[0], p[1]);
            case "close":
                needPier();
                needBetween(p[0], 0, 999);
                return isClose(p[0]) ? 1 : 0;
            case "wish":
                needAnswer(p[0]);
                return t.answers.get(p[0]).wish(needQuestion(p[1], p[2], p[3]));
            case "takes":
                needAnswer(p[0]);
                return takers(needQuestion(p[1], p[2], p[3])).get(p[0]).term(flag);
            case "nothing": return takers(needQuestion(p[0], p[1], p[2])).get(answers()).term(flag);
            case "mean": return meanOf(needQuestion(p[0], p[1], p[2])).term(flag);
            case "likeliest": {
                List<Share> all = takers(needQuestion(p[0], p[1], p[2]));
                int best = -2;
                for (int a = 0; a < answers(); a++) {
                    if (all.get(a).above(best == -2 ? Share.ZERO : all.get(best))) {
                        best = a;
                    }
                }
                return best;
            }
            case "surest":
                needAnswer(p[0]);
                need(isThere(p[0]), 5);
                q = surestFor(p[0]);
                return q == null ? -2 : q.code();
            case "surestOdds":
                needAnswer(p[0]);
                need(isThere(p[0]), 5);
                q = surestFor(p[0]);
                return (q == null ? Share.ZERO : takers(q).get(p[0])).term(flag);
            case "best": {
                needPier();
                Question best = null;
                for (Question x : t.questions()) {
                    if (meanOf(x).above(best == null ? Share.ZERO : meanOf(best))) {
                        best = x;
                    }
                }
                return best == null ? -2 : best.code();
            }
            case "bestBait": {
                needPier();
                int[] likers = new int[4];
                for (int a = 0; a < answers(); a++) {
                    likers[t.answers.get(a).likes] += isThere(a) ? 1 : 0;
                }
                int most = Arrays.stream(likers).max().getAsInt();
                int b = 0;
                while (likers[b] != most) {
                    b++;
                }
                return b;
            }
            case "hungerFor": {
                needAnswer(p[0]);
                q = needQuestion(p[1], p[2], p[3]);
                int least = -2;
                for (int h = 99; h >= 0; h--) {
                    least = t.answers.get(p[0]).withHunger(h).wish(q) >= 50 ? h : least;
                }
                return least;
            }
            default: return tellSeats(call, p, flag);
        }
    }

    long tellSeats(String call, int[] p, boolean flag) {
        switch (call) {
            case "freeSpots": {
                needAsker(p[0]);
                int bits = 0;
                for (int s = 0; s < t.spots; s++) {
                    bits += tangledNow(now, p[0], s) ? 0 : 1 << s;
                }
                return bits;
            }
            case "tangles":
                needAsker(p[0]);
                needAsker(p[2]);
                need(p[0] != p[2], 1);
                need(p[1] >= 0 && p[1] < t.spots && p[3] >= 0 && p[3] < t.spots, 1);
                return tangle(p[0], p[1], p[2], p[3]) ? 1 : 0;
            case "seatings":
                needPier();
                need(askers() > 0, 6);
                return rows((1 << askers()) - 1).size();
            case "seat": {
                needAsker(p[0]);
                List<int[]> all = rows((1 << askers()) - 1);
                return all.isEmpty() ? -2 : all.get(0)[p[0]];
            }
            case "mostSeated": {
                needPier();
                int best = 0;
                for (int bits = (1 << askers()) - 1; bits > 0; bits--) {
                    if (Integer.bitCount(bits) >= Integer.bitCount(best) && !rows(bits).isEmpty()) {
                        best = bits;
                    }
                }
                return best;
            }
            case "darks":
                needDark();
                return darkPlaces().size();
            case "darkAt":
                needDark();
                need(p[0] >= 0 && p[0] < darkPlaces().size(), 1);
                return darkPlaces().get(p[0]).code();
            case "darkSpots":
                needDark();
                return darkPlaces().stream().map(d -> 1 << d.spot).reduce(0, (x, y) -> x | y);
            case "ask":
                needDark();
                return askNow() == null ? -2 : askNow()[0];
            case "askLeaves":
                needDark();
                return askNow() == null ? -2 : askNow()[1];
            case "judge":
                needAnswer(p[0]);
                needDark();
                for (Bite b : t.bites) {
                    if (t.answers.get(p[0]).withHunger(t.dark).wish(b.q) >= 50 != b.yes) {
                        return t.bites.indexOf(b);
                    }
                }
                return -2;
            default: return tellMarket(call, p, flag);
        }
    }

    long tellMarket(String call, int[] p, boolean flag) {
        switch (call) {
            case "worth":
                needAnswer(p[0]);
                needBetween(p[1], 0, 999);
                needBetween(p[2], p[1], 999);
                return t.answers.get(p[0]).worthAfter(p[2] - p[1]);
            case "load":
                needPier();
                needBetween(p[0], 0, 6);
                return loadOf(p[0]);
            case "loadWorth":
                needPier();
                needBetween(p[0], 0, 6);
                return worthOf(loadOf(p[0]), now.day);
            case "bestDay": {
                needPier();
                int best = 20;
                for (int d = 20; d >= 0; d--) {
                    best = worthOf(unsold(), now.day + d) >= worthOf(unsold(), now.day + best) ? d : best;
                }
                return best;
            }
            case "hooks": return hooks(p[0], p[1], p[2], p[3], flag);
            case "lines":
                needPier();
                needBetween(p[0], 0, 99);
                needBetween(p[1], 0, 6);
                needBetween(p[2], 0, 6);
                return flag ? has(p[0], p[2], p[1]) : has(p[0], p[1], p[2]);
            case "rests":
                needPier();
                needBetween(p[0], 0, 99);
                return restsOf(p[0]).size();
            case "rest":
                needPier();
                needBetween(p[0], 0, 99);
                return restsOf(p[0]).isEmpty() ? -2 : restsOf(p[0]).get(0);
            case "landed", "crabs":
                needPier();
                needBetween(p[0], 0, 65536);
                needBetween(p[1], 0, 60);
                return ahead(-1, p[0], p[1])[call.equals("crabs") ? 1 : 0];
            case "landedIn":
                needAnswer(p[0]);
                needBetween(p[1], 0, 65536);
                needBetween(p[2], 0, 60);
                return ahead(p[0], p[1], p[2])[2];
            default: return act(call, p);
        }
    }

    long act(String call, int[] p) {
        switch (call) {
            case "let": {
                needAsker(p[0]);
                Question q = needQuestion(p[1], p[2], p[3]);
                need(!now.lines.containsKey(p[0]) && !isClose(now.day), 5);
                keepPast();
                now.lines.put(p[0], q);
                return 1;
            }
            case "drawIn":
                needAsker(p[0]);
                need(now.lines.containsKey(p[0]), 5);
                keepPast();
                now.lines.remove(p[0]);
                return 1;
            case "sell": {
                needAnswer(p[0]);
                need((unsold() >> p[0] & 1) == 1, 5);
                keepPast();
                int price = keeps(now, p[0], now.day);
                now.soldOnes.add(p[0]);
                now.sold += price;
                return price;
            }
            case "day": {
                needPier();
                keepPast();
                int bits = 0;
                for (int[] kt : pass(now)) {
                    bits |= now.landedOn.containsKey(kt[1]) ? 1 << kt[1] : 0;
                }
                return bits;
            }
            case "seed":
                needPier();
                needBetween(p[0], 0, 65536);
                now.seed = p[0];
                return 1;
            case "undo":
                need(!past.isEmpty(), 6);
                now = past.remove(past.size() - 1);
                return 1;
            case "mark":
                needPier();
                need(marks.size() < 3, 3);
                marks.add(now.copy());
                return marks.size() - 1;
            case "back":
                need(p[0] >= 0 && p[0] < marks.size(), 1);
                now = marks.get(p[0]).copy();
                past.clear();
                return 1;
            default: throw new IllegalStateException(call);
        }
    }

    static final String[] REFUSABLE = {
        "answer 2", "asker 2", "close 1", "wish 4", "takes 4", "nothing 3", "mean 3", "likeliest 3", "surest 1",
        "surestOdds 1", "best 0", "bestBait 0", "hungerFor 4", "freeSpots 1", "tangles 4", "seatings 0", "seat 1",
        "mostSeated 0", "darks 0", "darkAt 1", "darkSpots 0", "ask 0", "askLeaves 0", "judge 1", "worth 3", "load 1",
        "loadWorth 1", "bestDay 0", "hooks 4", "lines 3", "rests 1", "rest 1", "landed 2", "landedIn 3", "crabs 2",
        "let 4", "drawIn 1", "sell 1", "day 0", "seed 1", "undo 0", "mark 0", "back 1"};

    static final List<String> ACTS = Arrays.asList("let", "drawIn", "sell", "day", "seed", "undo", "mark", "back");

    static long real(HookPier x, String call, int[] p, boolean f) {
        return switch (call) {
            case "pier" -> x.pier(p[0]);
            case "answer" -> x.answer(p[0], p[1]);
            case "asker" -> x.asker(p[0], p[1]);
            case "close" -> x.close(p[0]);
            case "wish" -> x.wish(p[0], p[1], p[2], p[3]);
            case "takes" -> x.takes(p[0], p[1], p[2], p[3], f);
            case "nothing" -> x.nothing(p[0], p[1], p[2], f);
            case "mean" -> x.mean(p[0], p[1], p[2], f);
            case "likeliest" -> x.likeliest(p[0], p[1], p[2]);
            case "surest" -> x.surest(p[0]);
            case "surestOdds" -> x.surestOdds(p[0], f);
            case "best" -> x.best();
            case "bestBait" -> x.bestBait();
            case "hungerFor" -> x.hungerFor(p[0], p[1], p[2], p[3]);
            case "freeSpots" -> x.freeSpots(p[0]);
            case "tangles" -> x.tangles(p[0], p[1], p[2], p[3]);
            case "seatings" -> x.seatings();
            case "seat" -> x.seat(p[0]);
            case "mostSeated" -> x.mostSeated();
            case "darks" -> x.darks();
            case "darkAt" -> x.darkAt(p[0]);
            case "darkSpots" -> x.darkSpots();
            case "ask" -> x.ask();
            case "askLeaves" -> x.askLeaves();
            case "judge" -> x.judge(p[0]);
            case "worth" -> x.worth(p[0], p[1], p[2]);
            case "load" -> x.load(p[0]);
            case "loadWorth" -> x.loadWorth(p[0]);
            case "bestDay" -> x.bestDay();
            case "hooks" -> x.hooks(p[0], p[1], p[2], p[3], f);
            case "lines" -> x.lines(p[0], p[1], p[2], f);
            case "rests" -> x.rests(p[0]);
            case "rest" -> x.rest(p[0]);
            case "landed" -> x.landed(p[0], p[1]);
            case "landedIn" -> x.landedIn(p[0], p[1], p[2]);
            case "crabs" -> x.crabs(p[0], p[1]);
            case "let" -> x.let(p[0], p[1], p[2], p[3]) ? 1 : 0;
            case "drawIn" -> x.drawIn(p[0]) ? 1 : 0;
            case "sell" -> x.sell(p[0]);
            case "day" -> x.day();
            case "seed" -> x.seed(p[0]) ? 1 : 0;
            case "undo" -> x.undo() ? 1 : 0;
            case "mark" -> x.mark();
            default -> x.back(p[0]) ? 1 : 0;
        };
    }

    // ---- runs

    private static int wrong = 0;
    private static Random random;
    private final HookPier x = new HookPier();
    private final List<String> told = new ArrayList<>();

    /** A new object (promise 1) is asked by all of its first calls; each other promise is a call's. */
    private static final List<String> PROMISES = Arrays.asList("", "HookPier", "feed", "pier", "fault", "where", "answer", "asker",
            "close", "wish", "takes", "nothing", "mean", "likeliest", "surest", "surestOdds", "best", "bestBait", "hungerFor",
            "freeSpots", "tangles", "seatings", "seat", "mostSeated", "darks", "darkAt", "darkSpots", "ask", "askLeaves",
            "judge", "worth", "load", "loadWorth", "bestDay", "hooks", "lines", "rests", "rest", "landed", "landedIn", "crabs",
            "let", "drawIn", "sell", "day", "seed", "undo", "mark", "back", "led", "size", "trouble");
    private static final int[] ASKED = new int[52];
    private static final int[] WRONG = new int[52];

    void due(String call, long got, long want) {
        int promise = t == null && told.isEmpty() ? 1 : PROMISES.indexOf(call.split("\\W")[0]);
        ASKED[promise]++;
        told.add(call + " -> " + got);
        if (got != want) {
            wrong++;
            WRONG[promise]++;
            if (wrong <= 5) {
                System.out.println(String.join("\n", told));
                System.out.println("promise " + promise + ": due is " + want + "\n");
            }
        }
    }

    static int upTo(int n) {
        return random.nextInt(n);
    }

    /** Mostly numbers that are such, sometimes the edges beyond them, seldom wild ones. */
    int argument(String call, int i) {
        if (upTo(60) == 0) {
            return random.nextBoolean() ? random.nextInt() : random.nextBoolean() ? Integer.MIN_VALUE : Integer.MAX_VALUE;
        }
        if (upTo(25) == 0) {
            int[] edges = {-2, -1, 0, 1, 5, 6, 7, 8, 9, 10, 20, 60, 61, 99, 100, 998, 999, 1000, 65536, 65537};
            return edges[upTo(edges.length)];
        }
        int spots = t == null ? 4 : t.spots;
        int deep = t == null ? 4 : t.deep;
        int baits = t == null ? 2 : t.baits.size();
        int[] question = {upTo(spots), 1 + upTo(deep), upTo(baits)};
        int a = upTo(Math.max(1, answers()));
        int k = upTo(Math.max(1, askers()));
        switch (call) {
            case "nothing", "mean", "likeliest": return question[i];
            case "wish", "takes", "hungerFor": return i == 0 ? a : question[i - 1];
            case "let": return i == 0 ? k : question[i - 1];
            case "tangles": return i % 2 == 0 ? k : upTo(spots);
            case "answer": return i == 0 ? a : upTo(10);
            case "asker": return i == 0 ? k : upTo(6);
            case "hooks": return i == 0 ? a : i == 3 ? upTo(1000) : k;
            case "close": return upTo(20);
            case "freeSpots", "seat", "drawIn": return k;
            case "darkAt": return upTo(12);
            case "worth": return i == 0 ? a : i == 1 ? upTo(100) : 90 + upTo(60);
            case "lines": return i == 0 ? upTo(100) : upTo(7);
            case "rests", "rest": return upTo(100);
            case "landed", "crabs": return i == 0 ? upTo(65537) : upTo(61);
            case "landedIn": return i == 0 ? a : i == 1 ? upTo(65537) : upTo(61);
            case "load", "loadWorth": return upTo(7);
            case "seed": return upTo(65537);
            case "back": return upTo(3);
            default: return a;
        }
    }

    void one(String call, int[] p) {
        boolean flag = random.nextBoolean();
        long want;
        try {
            want = tell(call, p, flag);
            trouble = 0;
        } catch (Refused r) {
            trouble = r.why;
            boolean truth = Arrays.asList("let", "drawIn", "seed", "undo", "back").contains(call);
            want = call.equals("lines") ? -100 : truth ? 0 : -1;
        }
        due(call + Arrays.toString(p) + " " + flag, real(x, call, p, flag), want);
        due("trouble()", x.trouble(), trouble);
        due("where()", x.where(), trouble == 4 ? place : -1);
        due("fault()", x.fault(), fault);
    }

    void others() {
        for (int what = -1; what <= 12; what++) {
            due("size(" + what + ")", x.size(what), sizeOf(what));
        }
        List<Integer> out = new ArrayList<>();
        for (int a = 0; a < answers(); a++) {
            if (!isThere(a)) {
                out.add(a);
            }
        }
        for (int i = -1; i <= 6; i++) {
            long got = -7;
            try {
                got = x.led(i);
            } catch (NoSuchElementException e) {
                got = -9;
            }
            due("led(" + i + ")", got, i >= 0 && i < out.size() ? out.get(i) : -9);
        }
        for (int a = 0; a < answers(); a++) {
            for (int what = 6; what <= 9; what++) {
                one("answer", new int[] {a, what});
            }
        }
        for (int k = 0; k < askers(); k++) {
            for (int what = 1; what <= 5; what++) {
                one("asker", new int[] {k, what});
            }
        }
        due("trouble()", x.trouble(), trouble);
    }

    void feedText(String text) {
        String padded = text + " ".repeat((20 - text.length() % 20) % 20);
        for (int i = 0; i < padded.length(); i += 20) {
            int[] n = new int[5];
            for (int j = 0; j < 20; j++) {
                n[j / 4] = n[j / 4] << 8 | padded.charAt(i + j);
            }
            int want = -1;
            if (tape.length() + 20 <= 900) {
                tape.append(padded, i, i + 20);
                want = tape.length();
            }
            due("feed(" + padded.substring(i, i + 20) + ")", x.feed(n[0], n[1], n[2], n[3], n[4]), want);
        }
        due("trouble()", x.trouble(), trouble);
    }

    static String blanks() {
        return " ".repeat(1 + (upTo(8) == 0 ? upTo(3) : 0));
    }

    static String join(Object... words) {
        StringBuilder s = new StringBuilder();
        for (Object w : words) {
            s.append(s.length() == 0 ? "" : blanks()).append(w);
        }
        return s.toString();
    }

    static String text() {
        int spots = 2 + upTo(7);
        int deep = 1 + upTo(9);
        int from = upTo(3) == 0 ? upTo(20) : 20 + upTo(41);
        int to = from + upTo(Math.min(6, 61 - from));
        int baits = 1 + upTo(4);
        List<String> lines = new ArrayList<>();
        lines.add(join("pier", "spots", spots, "deep", deep, "from", from, "to", to));
        for (int b = 0; b < baits; b++) {
            lines.add(join("bait", "b" + (char) ('a' + b)));
        }
        for (int k = upTo(6); k > 0; k--) {
            lines.add(join("asker", "k" + (char) ('a' + k), "reach", upTo(3) == 0 ? upTo(4) : upTo(2)));
        }
        String[] kinds = {"plain", "cold", "crab", "boot"};
        for (int a = upTo(7); a > 0; a--) {
            lines.add(join("answer", "a" + (char) ('a' + a), kinds[upTo(4)], "at", upTo(spots), "depth", 1 + upTo(deep),
                    "hunger", upTo(100), "likes", "b" + (char) ('a' + upTo(baits)), "worth", upTo(100)));
        }
        if (upTo(4) != 0) {
            int hunger = upTo(3) == 0 ? upTo(100) : 30 + upTo(60);
            lines.add(join("dark", "hunger", hunger < 10 && upTo(2) == 0 ? "0" + hunger : hunger));
            for (int i = upTo(5); i > 0; i--) {
                lines.add(join("bite", upTo(spots), "fathoms", 1 + upTo(deep), "bait", "b" + (char) ('a' + upTo(baits)),
                        upTo(3) == 0 ? "yes" : "no"));
            }
        }
        return String.join(upTo(2) == 0 ? ";" : " ; ", lines);
    }

    /** A text with a few tokens or bytes put elsewhere, so that most FAULTS come up. */
    static String spoil(String text) {
        String s = text;
        for (int times = 1 + upTo(2); times > 0; times--) {
            String[] tokens = s.split("(?<=[ ;])");
            int i = upTo(tokens.length);
            String[] others = {"pier ", "bait ", "asker ", "answer ", "dark ", "bite ", "zz ", "99 ", "100 ", "; ", "A ",
                "nineteens ", "eighteen ", "0 ", "9 ", "to", " ", "", "\u00e9", "ba ", "ka ", "yes ", "plain ", "likes "};
            int how = upTo(4);
            if (how == 0) {
                tokens[i] = others[upTo(others.length)];
            } else if (how == 1) {
                tokens[i] = tokens[i] + others[upTo(others.length)];
            } else if (how == 2) {
                tokens[i] = tokens[upTo(tokens.length)];
            } else {
                tokens[i] = "";
            }
            s = String.join("", tokens);
        }
        if (upTo(4) == 0) {
            String[] lines = s.split(";");
            int i = upTo(lines.length);
            s = s + ";" + lines[i] + (upTo(2) == 0 ? ";" + lines[i] : "");
        }
        if (upTo(6) == 0) {
            s = s.substring(0, upTo(s.length() + 1));
        }
        return s;
    }

    void faults() {
        for (int i = 0; i < 12; i++) {
            String text = spoil(text());
            feedText(text);
            int end = Math.min(text.length(), tape.length());
            one("pier", new int[] {upTo(8) == 0 ? tape.length() : upTo(30) == 0 ? tape.length() + 1 : end});
        }
    }

    void run() {
        if (upTo(3) == 0) {
            faults();
        }
        if (upTo(20) != 0) {
            one("pier", new int[] {tape.length()});
            String text = text();
            feedText(text);
            one("pier", new int[] {Math.min(text.length(), tape.length())});
        }
        String[] acts = {"let 4", "let 4", "let 4", "day 0", "day 0", "day 0", "drawIn 1", "sell 1", "seed 1", "undo 0",
            "mark 0", "back 1"};
        boolean mostlyDays = random.nextBoolean();
        for (int i = 0; i < CALLS / 10; i++) {
            String[] among = upTo(2) == 0 ? acts : REFUSABLE;
            String[] call = among[upTo(among.length)].split(" ");
            if ((call[0].equals("undo") || call[0].equals("back")) && mostlyDays && upTo(4) != 0) {
                call = new String[] {"let", "4"};
            }
            one(call[0], arguments(call));
            if (upTo(12) == 0) {
                others();
            }
        }
        survey();
        others();
    }

    int[] arguments(String[] call) {
        int[] p = new int[Integer.parseInt(call[1])];
        for (int j = 0; j < p.length; j++) {
            p[j] = argument(call[0], j);
        }
        return p;
    }

    /** Every call that changes nothing, of the state to which the run came. */
    void survey() {
        for (String refusable : REFUSABLE) {
            String[] call = refusable.split(" ");
            if (!ACTS.contains(call[0])) {
                for (int times = 1 + 2 * Integer.parseInt(call[1]); times > 0; times--) {
                    one(call[0], arguments(call));
                }
            }
        }
    }

    public static void main(String[] args) {
        for (int i = 0; i < RUNS; i++) {
            random = new Random(i);
            HookPierModel m = new HookPierModel();
            m.run();
        }
        for (int promise = 1; promise <= 51; promise++) {
            System.out.println("promise " + promise + ": " + ASKED[promise] + " answers, " + WRONG[promise] + " not as due");
            wrong += ASKED[promise] == 0 ? 1 : 0;
        }
        System.out.println(wrong == 0 ? "all answers are as due" : wrong + " answers are not as due");
        if (wrong != 0) {
            System.exit(1);
        }
    }
}
