import java.util.NoSuchElementException;

/** Each promise of the document with inputs whose answers were reckoned by hand; the number in front is the promise's. */
public final class HookPierPromises {
    private static final String PIER = "pier spots 5 deep 4 from 3 to 4";
    private static final String BAITS = ";bait fly;bait worm;bait rag";
    private static final String ASKERS = ";asker ann reach 0;asker bob reach 1;asker cid reach 0";
    /** 0 sits at the first spot, 1 is a crab, 2 a boot, 3 a cold one. */
    private static final String ANSWERS = ";answer yes plain at 0 depth 1 hunger 80 likes fly worth 12"
            + ";answer claw crab at 4 depth 4 hunger 90 likes worm worth 50"
            + ";answer shoe boot at 2 depth 2 hunger 99 likes worm worth 97"
            + ";answer ice cold at 4 depth 1 hunger 40 likes worm worth 20";
    private static final String DARK = ";dark hunger 40;bite 1 fathoms 2 bait fly yes;bite 3 fathoms 2 bait fly no";
    private static final String ALL = PIER + BAITS + ASKERS + ANSWERS + DARK;
    private static final String SURE = "pier spots 8 deep 9 from 60 to 60;bait fly;bait worm"
            + ";asker ann reach 0;asker bob reach 0;asker cid reach 0;asker dan reach 0;asker eve reach 0";

    private static int promise = 0;
    private static int wrong = 0;
    private static final int[] ASKED = new int[52];
    private static final int[] WRONG = new int[52];

    private static void due(String what, long got, long want) {
        ASKED[promise]++;
        if (got != want) {
            wrong++;
            WRONG[promise]++;
            System.out.println("promise " + promise + ": " + what + " answered " + got + ", due is " + want);
        }
    }

    private static void due(String what, boolean got, boolean want) {
        due(what, got ? 1 : 0, want ? 1 : 0);
    }

    private static void refused(HookPier x, String what, long got, int why) {
        due(what, got, HookPier.NONE);
        due(what + ", trouble()", x.trouble(), why);
    }

    private static void refused(HookPier x, String what, boolean got, int why) {
        due(what, got, false);
        due(what + ", trouble()", x.trouble(), why);
    }

    private static int feed(HookPier x, String text) {
        int has = x.size(11);
        for (int i = 0; i < text.length(); i += 20) {
            int[] n = new int[5];
            for (int j = 0; j < 20; j++) {
                n[j / 4] = n[j / 4] << 8 | (i + j < text.length() ? text.charAt(i + j) : ' ');
            }
            has = x.feed(n[0], n[1], n[2], n[3], n[4]);
        }
        return has;
    }

    private static int tell(HookPier x, String text) {
        feed(x, text);
        return x.pier(text.length());
    }

    private static HookPier pierOf(String text) {
        HookPier x = new HookPier();
        if (tell(x, text) < 0) {
            wrong++;
            WRONG[promise]++;
            System.out.println("promise " + promise + ": fault " + x.fault() + " at " + x.where() + " in " + text);
        }
        return x;
    }

    /** A pier with answers that take whatever comes to their spots, and hunger 99 and a liked bait for it: WISH 100. */
    private static HookPier eager(String... answers) {
        StringBuilder text = new StringBuilder(SURE);
        for (String a : answers) {
            text.append(";answer ").append(a);
        }
        return pierOf(text.toString());
    }

    private static HookPier letAll(String... answers) {
        HookPier x = eager(answers);
        for (int k = 0; k < 5; k++) {
            x.let(k, k, 1, 0);
        }
        return x;
    }

    private static void faultOf(String text, int number, int place) {
        HookPier x = new HookPier();
        refused(x, text, tell(x, text), 4);
        due("fault() of " + text, x.fault(), number);
        due("where() of " + text, x.where(), place);
    }

    /** The place is that of the sign |, which isn't told. */
    private static void faultAt(int number, String text) {
        int place = text.indexOf('|');
        faultOf(text.substring(0, place) + text.substring(place + 1), number, place);
    }

    private static void good(String text) {
        HookPier x = new HookPier();
        feed(x, text);
        due("trouble of " + text, x.pier(text.length()) < 0 ? x.fault() * 1000 + x.where() : 0, 0);
    }

    private static boolean leads(HookPier x, int i, int want) {
        try {
            return x.led(i) == want;
        } catch (NoSuchElementException e) {
            return want == HookPier.NONE;
        }
    }

    // ---- 1 to 5

    private static void newObject() {
        promise = 1;
        HookPier x = new HookPier();
        due("NONE", HookPier.NONE, -1);
        due("fault()", x.fault(), 0);
        due("where()", x.where(), -1);
        due("trouble()", x.trouble(), 0);
        for (int what = 0; what <= 11; what++) {
            due("size(" + what + ")", x.size(what), 0);
        }
        due("lines(0, 0, 0, true)", x.lines(0, 0, 0, true), -100);
        due("trouble()", x.trouble(), 1);
        due("led(0)", leads(x, 0, -1), true);
        withoutPier(x);
        HookPier y = new HookPier();
        tell(y, PIER);
        withoutPier(y);
    }

    /** All calls that are refused by 1 as there is no PIER, with numbers that would be good ones or bad ones. */
    private static void withoutPier(HookPier x) {
        refused(x, "answer", x.answer(0, 0), 1);
        refused(x, "asker", x.asker(0, 0), 1);
        refused(x, "close", x.close(0), 1);
        refused(x, "close", x.close(-1), 1);
        refused(x, "wish", x.wish(0, 0, 1, 0), 1);
        refused(x, "takes", x.takes(0, 0, 1, 0, true), 1);
        refused(x, "nothing", x.nothing(0, 0, 0, true), 1);
        refused(x, "mean", x.mean(0, 1, 0, true), 1);
        refused(x, "likeliest", x.likeliest(0, 1, 0), 1);
        refused(x, "surest", x.surest(0), 1);
        refused(x, "surestOdds", x.surestOdds(0, true), 1);
        refused(x, "best", x.best(), 1);
        refused(x, "bestBait", x.bestBait(), 1);
        refused(x, "hungerFor", x.hungerFor(0, 0, 0, 0), 1);
        refused(x, "freeSpots", x.freeSpots(0), 1);
        refused(x, "tangles", x.tangles(0, 0, 1, 1), 1);
        refused(x, "seatings", x.seatings(), 1);
        refused(x, "seat", x.seat(0), 1);
        refused(x, "mostSeated", x.mostSeated(), 1);
        refused(x, "darks", x.darks(), 1);
        refused(x, "darkAt", x.darkAt(0), 1);
        refused(x, "darkSpots", x.darkSpots(), 1);
        refused(x, "ask", x.ask(), 1);
        refused(x, "askLeaves", x.askLeaves(), 1);
        refused(x, "judge", x.judge(0), 1);
        refused(x, "worth", x.worth(0, 1, 0), 1);
        refused(x, "load", x.load(7), 1);
        refused(x, "loadWorth", x.loadWorth(7), 1);
        refused(x, "bestDay", x.bestDay(), 1);
        refused(x, "hooks", x.hooks(0, 0, 1, 1000, true), 1);
        refused(x, "rests", x.rests(100), 1);
        refused(x, "rest", x.rest(100), 1);
        refused(x, "landed", x.landed(0, 61), 1);
        refused(x, "landedIn", x.landedIn(0, 0, 61), 1);
        refused(x, "crabs", x.crabs(0, 61), 1);
        refused(x, "let", x.let(0, 0, 0, 0), 1);
        refused(x, "drawIn", x.drawIn(0), 1);
        refused(x, "sell", x.sell(0), 1);
        refused(x, "day", x.day(), 1);
        refused(x, "seed", x.seed(-1), 1);
        refused(x, "undo", x.undo(), 6);
        refused(x, "mark", x.mark(), 1);
        refused(x, "back", x.back(0), 1);
    }

    private static void feeding() {
        promise = 2;
        HookPier x = new HookPier();
        due("feed", x.feed(0, 0, 0, 0, 0), 20);
        for (int i = 2; i <= 45; i++) {
            due("feed", x.feed(0, 0, 0, 0, 0), 20L * i);
        }
        due("size(11)", x.size(11), 900);
        due("feed of a full tape", x.feed(0, 0, 0, 0, 0), -1);
        due("size(11)", x.size(11), 900);
        due("trouble(), feed isn't of those", x.trouble(), 0);
        x.best();
        due("feed of a full tape", x.feed(0, 0, 0, 0, 0), -1);
        due("trouble(), feed isn't of those", x.trouble(), 1);
        HookPier y = new HookPier();
        y.feed(0x70696572, 0x2073706f, 0x74732038, 0x20202020, 0x20202061);
        due("pier", y.pier(20), -1);
        due("where(), the lowest byte comes last", y.where(), 19);
    }

    private static void piers() {
        promise = 3;
        HookPier x = new HookPier();
        due("pier", tell(x, ALL), 4);
        due("trouble()", x.trouble(), 0);
        due("size(11)", x.size(11), 0);
        feed(x, PIER);
        refused(x, "pier(41)", x.pier(41), 2);
        due("size(11), the tape stays", x.size(11), 40);
        refused(x, "pier(-1)", x.pier(-1), 2);
        due("size(11), the tape stays", x.size(11), 40);
        refused(x, "pier(31)", x.pier(31), 4);
        due("size(11), it is empty", x.size(11), 0);
        due("size(4), the pier stays", x.size(4), 4);
        x.seed(9);
        x.let(0, 0, 1, 0);
        x.mark();
        x.day();
        refused(x, "pier of a fault", tell(x, "pier"), 4);
        due("size(6), now stays", x.size(6), 1);
        due("size(9), acts stay", x.size(9), 2);
        due("pier", tell(x, PIER + BAITS), 0);
        for (int what = 4; what <= 11; what++) {
            due("size(" + what + ") of a new pier", x.size(what), 0);
        }
        due("pier anew", tell(x, ALL), 4);
        due("size(5), no bites of an older one", x.size(5), 2);
        due("asker(0, 1), no line is out", x.asker(0, 1), -2);
        due("answer(0, 6), all are there", x.answer(0, 6), 0);
        refused(x, "back(0), no marks", x.back(0), 1);
    }

    private static void pierBehindSelling() {
        promise = 3;
        HookPier x = eager("a plain at 0 depth 1 hunger 99 likes fly worth 30");
        x.let(0, 0, 1, 0);
        x.day();
        x.sell(0);
        due("size(8)", x.size(8), 25);
        due("pier", tell(x, ALL), 4);
        for (int what = 6; what <= 11; what++) {
            due("size(" + what + ")", x.size(what), 0);
        }
        due("answer(0, 6)", x.answer(0, 6), 0);
    }

    /** Bytes behind the first n are none of the text. */
    private static void cutTexts() {
        promise = 3;
        HookPier x = new HookPier();
        feed(x, PIER + ";bait abcdefghij");
        due("a word is cut", x.pier(PIER.length() + 8), 0);
        feed(x, "pier spots 4 deep 8 from 1 to 999");
        refused(x, "a whole is cut", x.pier(32), 4);
        due("fault()", x.fault(), 4);
        due("where()", x.where(), 30);
        feed(x, "pier spots 4 deep 8 from 1 to 99");
        refused(x, "a whole is cut", x.pier(31), 4);
        due("fault(), no bait", x.fault(), 6);
    }

    private static void fullText() {
        promise = 3;
        StringBuilder text = new StringBuilder("pier spots 8 deep 9 from 0 to 60");
        for (char c = 'a'; c <= 'd'; c++) {
            text.append(";bait ").append(c).append('z');
        }
        for (char c = 'a'; c <= 'e'; c++) {
            text.append(";asker z").append(c).append(" reach 0");
        }
        for (char c = 'a'; c <= 'f'; c++) {
            text.append(";answer ").append(c).append(" cold at 7 depth 9 hunger 99 likes dz worth 99");
        }
        text.append(";dark hunger 99");
        for (int i = 0; i < 6; i++) {
            text.append(";bite 7 fathoms 9 bait dz yes");
        }
        HookPier x = new HookPier();
        for (int again = 0; again < 3; again++) {
            due("pier", tell(x, text.toString()), 6);
            long[] sizes = {8, 9, 4, 5, 6, 6, 0, 0, 0, 0, 0, 0};
            for (int what = 0; what < 12; what++) {
                due("size(" + what + ")", x.size(what), sizes[what]);
            }
        }
        due("answer(5, 4)", x.answer(5, 4), 3);
        due("surest(5), where the five ahead of it are less sure", x.surest(5) >= 0, true);
        due("led(0)", leads(x, 0, -1), true);
    }

    private static void forms() {
        promise = 4;
        faultAt(1, "|tier spots 3");
        faultAt(1, "pier |pots 3");
        faultAt(1, "pier spots 3 |keep 4");
        faultOf("", 1, 0);
        faultOf("   ", 1, 3);
        faultAt(1, "|;");
        faultAt(1, "|zz");
        faultAt(1, "|7");
        faultAt(1, "|Pier");
        faultAt(1, "pier spots 3 deep 4 from 3 to 4|:bait a");
        faultAt(1, "pier |deep");
        faultAt(1, "pier spots |deep");
        faultAt(1, "pier spots 3|");
        faultAt(1, "pier spots 3  |");
        faultAt(1, PIER + ";|");
        faultAt(1, PIER + ";bait a;|;bait b");
        faultAt(1, PIER + ";bait a |bait b");
        faultAt(1, PIER + ";bait |abcdefghi");
        good(PIER + ";bait abcdefgh");
        faultAt(1, PIER + ";bait |A");
        faultAt(1, PIER + ";bait |" + (char) 233);
        faultAt(1, PIER + ";bait |" + (char) 0);
        faultAt(1, PIER + ";bait |1");
        faultAt(1, PIER + ";bait a|1");
        for (String word : new String[] {"pier", "bait", "asker", "answer", "dark", "bite"}) {
            faultAt(1, PIER + ";bait |" + word);
            faultAt(1, PIER + ";asker |" + word + " reach 1");
            faultAt(1, PIER + ";bait a;answer x plain at 0 depth 1 hunger 1 likes |" + word + " worth 3");
        }
        for (String word : new String[] {"spots", "plain", "yes", "no", "reach", "likes", "at", "piers", "baits", "pie"}) {
            good(PIER + ";bait " + word + ";answer x plain at 0 depth 1 hunger 1 likes " + word + " worth 3");
        }
        faultAt(1, "pier spots |100");
        good("pier spots 03 deep 04 from 00 to 04;bait a");
        good("pier spots3deep4from3to4;bait a;asker b reach0");
        good("  pier spots 3 deep 4 from 3 to 4  ;  bait   a  ");
        faultAt(1, PIER + ";bait a;answer x |hot at 0");
        faultAt(1, PIER + ";bait a;answer x plain |depth 0");
        faultAt(1, PIER + ";bait a;dark |50");
        faultAt(1, PIER + ";bait a;dark hunger 5;bite 0 fathoms 1 |a yes");
        faultAt(1, PIER + ";bait a;dark hunger 5;bite 0 fathoms 1 bait a |maybe");
        faultAt(1, PIER + ";bait a;dark hunger 5;bite 0 fathoms 1 bait a|");
        faultAt(1, PIER + ";bait a;dark hunger 5;bite 0 fathoms 1 bait a yes |no");
        faultAt(1, PIER + "|,");
    }

    private static void namesAndBounds() {
        promise = 4;
        String bait = PIER + ";bait a";
        faultAt(2, bait + ";answer x plain at 0 depth 1 hunger 1 likes |b worth 1");
        faultAt(2, bait + ";asker k reach 0;answer x plain at 0 depth 1 hunger 1 likes |k worth 1");
        faultAt(2, bait + ";answer x plain at 0 depth 1 hunger 1 likes |x worth 1");
        faultAt(2, bait + ";dark hunger 1;bite 0 fathoms 1 bait |b yes");
        faultAt(2, bait + ";dark hunger 1;bite 0 fathoms 1 bait |b yes;bait b");
        faultAt(2, bait + ";answer x plain at 0 depth 1 hunger 1 likes |aa worth 1");
        faultAt(3, bait + ";bait |a");
        faultAt(3, bait + ";asker |a reach 9");
        faultAt(3, bait + ";asker k reach 0;asker |k reach 1");
        faultAt(3, bait + ";asker k reach 0;answer |k plain");
        faultAt(3, bait + ";|pier spots 3 deep 4 from 3 to 4");
        faultAt(3, bait + ";dark hunger 5;|dark hunger 5");
        good(bait + ";bait aa;bait aaa;bait b");
        faultAt(4, "pier spots |1 deep 4");
        faultAt(4, "pier spots |9 deep 4");
        good("pier spots 2 deep 1 from 0 to 0;bait a");
        good("pier spots 8 deep 9 from 60 to 60;bait a");
        faultAt(4, "pier spots 2 deep |0 from");
        faultAt(4, "pier spots 2 deep |10 from");
        faultAt(4, "pier spots 2 deep 1 from |61 to");
        faultAt(4, "pier spots 2 deep 1 from 5 to |4;");
        faultAt(4, "pier spots 2 deep 1 from 5 to |61;");
        faultAt(4, bait + ";asker k reach |4");
        good(bait + ";asker k reach 3");
        faultAt(4, bait + ";answer x plain at |5 depth 1");
        faultAt(4, bait + ";answer x plain at 4 depth |5 hunger 1");
        faultAt(4, bait + ";answer x plain at 4 depth |0 hunger 1");
        good(bait + ";answer x plain at 4 depth 4 hunger 99 likes a worth 99");
        good(bait + ";answer x plain at 0 depth 1 hunger 0 likes a worth 0");
        faultAt(4, bait + ";dark hunger 99;bite |5 fathoms 1");
        faultAt(4, bait + ";dark hunger 99;bite 4 fathoms |5 bait a");
        faultAt(4, bait + ";dark hunger 99;bite 4 fathoms |0 bait a");
        good(bait + ";dark hunger 0;bite 4 fathoms 4 bait a yes");
    }

    private static void manyAndLacks() {
        promise = 4;
        StringBuilder askers = new StringBuilder();
        StringBuilder answers = new StringBuilder();
        StringBuilder bites = new StringBuilder(";dark hunger 5");
        for (char c = 'p'; c < 'v'; c++) {
            askers.append(c == 'u' ? "" : ";asker " + c + " reach 0");
            answers.append(";answer ").append(c).append(" cold at 0 depth 1 hunger 1 likes a worth 1");
            bites.append(";bite 0 fathoms 1 bait a no");
        }
        String four = PIER + ";bait a;bait b;bait c;bait d";
        good(four);
        faultAt(5, four + ";|bait");
        faultAt(5, four + ";|bait a");
        good(four + askers);
        faultAt(5, four + askers + ";|asker p");
        good(four + answers);
        faultAt(5, four + answers + ";|answer");
        good(four + bites);
        faultAt(5, four + bites + ";|bite 9");
        for (String line : new String[] {"bait a", "asker a", "answer a", "dark hunger 1", "bite 0"}) {
            faultAt(6, " |" + line + ";" + PIER);
        }
        faultAt(6, PIER + ";bait a;|bite 99");
        faultAt(6, PIER + ";bait a;|bite 0 fathoms 1 bait a yes;dark hunger 5");
        faultAt(6, PIER + "|");
        faultAt(6, PIER + ";asker a reach 0;dark hunger 3 |");
        faultAt(1, PIER + ";asker a|");
    }

    private static void faultsAndPlaces() {
        promise = 4;
        HookPier x = new HookPier();
        tell(x, "pier spots 9");
        due("fault()", x.fault(), 4);
        x.pier(1);
        due("fault(), refused by 2 in between", x.fault(), 4);
        x.best();
        due("fault(), another call", x.fault(), 4);
        tell(x, PIER + BAITS);
        due("fault(), of a good one", x.fault(), 0);
        promise = 5;
        tell(x, "pier spots 9");
        due("where()", x.where(), 11);
        x.trouble();
        x.fault();
        x.size(0);
        leads(x, 0, 0);
        x.feed(0, 0, 0, 0, 0);
        due("where(), behind calls that aren't refused by numbers", x.where(), 11);
        x.pier(21);
        due("where(), refused by 2", x.where(), -1);
        tell(x, "pier spots 9");
        x.best();
        due("where(), behind a call that isn't refused", x.where(), -1);
        tell(x, PIER + BAITS);
        due("where(), of a good one", x.where(), -1);
    }

    // ---- 6 to 8

    private static void answers() {
        promise = 6;
        HookPier x = pierOf(ALL);
        long[][] told = {{0, 0, 1, 80, 0, 12}, {2, 4, 4, 90, 1, 50}, {3, 2, 2, 99, 1, 97}, {1, 4, 1, 40, 1, 20}};
        for (int a = 0; a < 4; a++) {
            for (int what = 0; what < 6; what++) {
                due("answer(" + a + ", " + what + ")", x.answer(a, what), told[a][what]);
            }
            due("answer(a, 6)", x.answer(a, 6), 0);
            for (int what = 7; what < 10; what++) {
                due("answer(" + a + ", " + what + ")", x.answer(a, what), -2);
            }
        }
        refused(x, "answer(-1, 0)", x.answer(-1, 0), 1);
        refused(x, "answer(4, 0)", x.answer(4, 0), 1);
        refused(x, "answer(0, -1)", x.answer(0, -1), 1);
        refused(x, "answer(0, 10)", x.answer(0, 10), 1);
        HookPier y = eager("a plain at 1 depth 1 hunger 99 likes fly worth 30");
        y.day();
        y.let(3, 1, 1, 0);
        y.day();
        due("answer(0, 6)", y.answer(0, 6), 1);
        due("answer(0, 7)", y.answer(0, 7), 1);
        due("answer(0, 8)", y.answer(0, 8), 3);
        due("answer(0, 9)", y.answer(0, 9), 25);
        y.day();
        due("answer(0, 9)", y.answer(0, 9), 20);
        y.sell(0);
        due("answer(0, 6)", y.answer(0, 6), 2);
        due("answer(0, 7)", y.answer(0, 7), 1);
        due("answer(0, 8)", y.answer(0, 8), 3);
        due("answer(0, 9)", y.answer(0, 9), -2);
        due("asker(3, 4), sold too", y.asker(3, 4), 1);
    }

    private static void askers() {
        promise = 7;
        HookPier x = pierOf(ALL);
        due("asker(1, 0)", x.asker(1, 0), 1);
        due("asker(2, 0)", x.asker(2, 0), 0);
        for (int what = 1; what <= 3; what++) {
            due("asker(0, " + what + ")", x.asker(0, what), -2);
        }
        due("asker(0, 5)", x.asker(0, 5), 0);
        x.let(0, 2, 3, 1);
        due("asker(0, 1)", x.asker(0, 1), 2);
        due("asker(0, 2)", x.asker(0, 2), 3);
        due("asker(0, 3)", x.asker(0, 3), 1);
        due("asker(0, 4)", x.asker(0, 4), 0);
        due("asker(0, 5), alone", x.asker(0, 5), 0);
        x.let(2, 3, 1, 0);
        due("asker(0, 5), two reaches of 0 a spot apart", x.asker(0, 5), 0);
        x.let(1, 4, 1, 0);
        due("asker(0, 5)", x.asker(0, 5), 0);
        due("asker(1, 5)", x.asker(1, 5), 1);
        due("asker(2, 5)", x.asker(2, 5), 1);
        x.drawIn(1);
        due("asker(1, 5), his line is in", x.asker(1, 5), 0);
        refused(x, "asker(3, 0)", x.asker(3, 0), 1);
        refused(x, "asker(-1, 0)", x.asker(-1, 0), 1);
        refused(x, "asker(0, 6)", x.asker(0, 6), 1);
        refused(x, "asker(0, -1)", x.asker(0, -1), 1);
        HookPier y = letAll("a plain at 4 depth 1 hunger 99 likes fly worth 30", "b cold at 4 depth 1 hunger 99 likes fly worth 3");
        y.drawIn(0);
        y.drawIn(1);
        y.drawIn(2);
        y.drawIn(3);
        y.day();
        y.let(4, 4, 1, 0);
        y.day();
        due("asker(4, 4)", y.asker(4, 4), 3);
        due("asker(3, 4)", y.asker(3, 4), 0);
    }

    private static void closeDays() {
        promise = 8;
        HookPier x = pierOf(ALL);
        due("close(2)", x.close(2), 0);
        due("close(3)", x.close(3), 1);
        due("close(4)", x.close(4), 1);
        due("close(5)", x.close(5), 0);
        due("close(0)", x.close(0), 0);
        due("close(999)", x.close(999), 0);
        refused(x, "close(-1)", x.close(-1), 2);
        refused(x, "close(1000)", x.close(1000), 2);
        HookPier y = pierOf("pier spots 2 deep 1 from 7 to 7;bait a");
        due("close(6)", y.close(6), 0);
        due("close(7)", y.close(7), 1);
        due("close(8)", y.close(8), 0);
    }

    // ---- 9 to 18

    private static void wishes() {
        promise = 9;
        HookPier x = pierOf(ALL);
        due("liked, at its place, no more than 100", x.wish(0, 0, 1, 0), 100);
        due("not liked", x.wish(0, 0, 1, 1), 80);
        due("three spots off", x.wish(0, 3, 1, 1), 50);
        due("two fathoms off", x.wish(0, 0, 3, 2), 64);
        due("all", x.wish(0, 2, 4, 0), 56);
        due("a crab, fathoms off", x.wish(1, 3, 1, 0), 80);
        due("a crab, liked", x.wish(1, 2, 1, 1), 90);
        due("a boot", x.wish(2, 2, 2, 0), 79);
        due("a boot with the bait it likes", x.wish(2, 2, 2, 1), 79);
        due("a boot off", x.wish(2, 4, 4, 1), 43);
        due("a cold one", x.wish(3, 4, 2, 1), 52);
        due("no less than 0", x.wish(3, 0, 4, 0), 0);
        HookPier y = letAll("a plain at 0 depth 1 hunger 60 likes fly worth 30");
        while (y.answer(0, 6) == 0 && y.size(6) < 20) {
            y.day();
        }
        due("of one that is landed", y.wish(0, 0, 1, 0), 80);
        refusals(x, new QuestionCall() {
            public long of(int spot, int fathoms, int bait) {
                return x.wish(0, spot, fathoms, bait);
            }
        });
        refused(x, "wish(4, ..)", x.wish(4, 0, 1, 0), 1);
        refused(x, "wish(-1, ..)", x.wish(-1, 0, 1, 0), 1);
        refused(x, "wish(4, fathoms 0)", x.wish(4, 0, 0, 0), 1);
    }

    private interface QuestionCall {
        long of(int spot, int fathoms, int bait);
    }

    private static void refusals(HookPier x, QuestionCall call) {
        refused(x, "spot -1", call.of(-1, 1, 0), 1);
        refused(x, "spot 5", call.of(5, 1, 0), 1);
        refused(x, "bait -1", call.of(0, 1, -1), 1);
        refused(x, "bait 3", call.of(0, 1, 3), 1);
        refused(x, "fathoms 0", call.of(0, 0, 0), 2);
        refused(x, "fathoms 5", call.of(0, 5, 0), 2);
        refused(x, "spot and fathoms", call.of(5, 5, 0), 1);
        refused(x, "bait and fathoms", call.of(0, 0, 3), 1);
    }

    private static void takings() {
        // of 4, 1, 1: WISHES 48 (plain), 90 (crab), 51 (boot), 40 (cold)
        promise = 10;
        HookPier x = pierOf(ALL);
        due("takes(0)", x.takes(0, 4, 1, 2, false), 2);
        due("takes(0)", x.takes(0, 4, 1, 2, true), 5);
        due("takes(1): 60 of 100, then 90 of 100", x.takes(1, 4, 1, 2, false), 27);
        due("takes(1)", x.takes(1, 4, 1, 2, true), 50);
        due("takes(2): 6 of 100, then 51 of 100", x.takes(2, 4, 1, 2, false), 153);
        due("takes(2)", x.takes(2, 4, 1, 2, true), 5000);
        due("takes(3): 294 of 10000, then 40 of 100", x.takes(3, 4, 1, 2, false), 147);
        due("takes(3)", x.takes(3, 4, 1, 2, true), 12500);
        due("a sure one ahead: 0", x.takes(1, 0, 1, 0, false), 0);
        due("by 1", x.takes(1, 0, 1, 0, true), 1);
        refusals(x, new QuestionCall() {
            public long of(int spot, int fathoms, int bait) {
                return x.takes(0, spot, fathoms, bait, true);
            }
        });
        refused(x, "takes(4, ..)", x.takes(4, 0, 1, 0, false), 1);
        promise = 11;
        due("nothing: 294 of 10000, then 60 of 100", x.nothing(4, 1, 2, false), 441);
        due("nothing", x.nothing(4, 1, 2, true), 25000);
        due("nothing, a sure one", x.nothing(0, 1, 0, false), 0);
        due("nothing, a sure one, by 1", x.nothing(0, 1, 0, true), 1);
        due("nothing of no answers", pierOf(PIER + BAITS).nothing(0, 1, 0, true), 1);
        refusals(x, new QuestionCall() {
            public long of(int spot, int fathoms, int bait) {
                return x.nothing(spot, fathoms, bait, true);
            }
        });
        promise = 12;
        // 12 by 2/5, no crab, 97 by 153/5000, 20 by 147/12500: 480000 + 296820 + 23520 of 100000
        due("mean", x.mean(4, 1, 2, false), 40017);
        due("mean", x.mean(4, 1, 2, true), 5000);
        due("mean of a sure one", x.mean(0, 1, 0, false), 12);
        due("mean of a sure one", x.mean(0, 1, 0, true), 1);
        due("mean of no answers", pierOf(PIER + BAITS).mean(0, 1, 0, false), 0);
        due("mean of no answers", pierOf(PIER + BAITS).mean(0, 1, 0, true), 1);
        refusals(x, new QuestionCall() {
            public long of(int spot, int fathoms, int bait) {
                return x.mean(spot, fathoms, bait, false);
            }
        });
        promise = 13;
        due("likeliest", x.likeliest(4, 1, 2), 1);
        due("likeliest", x.likeliest(0, 1, 0), 0);
        HookPier y = eager("a plain at 0 depth 1 hunger 50 likes worm worth 1", "b plain at 0 depth 1 hunger 80 likes fly worth 1");
        due("of like ones the first", y.likeliest(0, 1, 0), 0);
        due("none does", y.likeliest(7, 9, 0), -2);
        refusals(x, new QuestionCall() {
            public long of(int spot, int fathoms, int bait) {
                return x.likeliest(spot, fathoms, bait);
            }
        });
    }

    private static void takingsOfThoseThere() {
        HookPier x = eager("a plain at 0 depth 1 hunger 99 likes fly worth 30", "b plain at 0 depth 1 hunger 40 likes fly worth 10");
        x.let(0, 0, 1, 0);
        x.day();
        promise = 10;
        due("one that isn't there", x.takes(0, 0, 1, 0, false), 0);
        due("one that isn't there", x.takes(0, 0, 1, 0, true), 1);
        due("behind one that isn't there", x.takes(1, 0, 1, 0, false), 3);
        promise = 11;
        due("nothing", x.nothing(0, 1, 0, false), 2);
        promise = 12;
        due("mean", x.mean(0, 1, 0, false), 6);
        promise = 13;
        due("likeliest", x.likeliest(0, 1, 0), 1);
        promise = 14;
        refused(x, "surest of one that isn't there", x.surest(0), 5);
        due("surest", x.surest(1), 10);
        promise = 15;
        refused(x, "surestOdds of one that isn't there", x.surestOdds(0, true), 5);
        promise = 17;
        due("bestBait", x.bestBait(), 0);
    }

    private static void surests() {
        promise = 14;
        HookPier x = pierOf(ALL);
        due("surest(0), at its place with its bait", x.surest(0), 10);
        refused(x, "surest(4)", x.surest(4), 1);
        refused(x, "surest(-1)", x.surest(-1), 1);
        HookPier y = eager("a plain at 3 depth 5 hunger 99 likes fly worth 30", "b plain at 3 depth 5 hunger 99 likes fly worth 30",
                "c plain at 0 depth 1 hunger 0 likes fly worth 30", "d boot at 7 depth 9 hunger 20 likes fly worth 1");
        // 99 and 20 less 10 and 8 are 101: the first question of WISH 100 is a spot and a fathom off
        due("surest(0), of like ones the first", y.surest(0), 240);
        due("surest(2)", y.surest(2), 10);
        due("surest(3), none", y.surest(3), -2);
        promise = 15;
        due("surestOdds(0)", y.surestOdds(0, false), 1);
        // 57 of 100 twice ahead of its 20 of 100
        due("surestOdds(2)", y.surestOdds(2, false), 1849);
        due("surestOdds(2)", y.surestOdds(2, true), 50000);
        due("surestOdds(3), none", y.surestOdds(3, false), 0);
        due("surestOdds(3), none", y.surestOdds(3, true), 1);
        refused(x, "surestOdds(4)", x.surestOdds(4, false), 1);
    }

    private static void bests() {
        promise = 16;
        HookPier x = eager("a crab at 0 depth 1 hunger 99 likes fly worth 99", "b plain at 7 depth 9 hunger 30 likes worm worth 50",
                "c plain at 7 depth 9 hunger 30 likes worm worth 0");
        due("best()", x.best(), 791);
        HookPier y = eager("a crab at 0 depth 1 hunger 99 likes fly worth 99", "b plain at 7 depth 9 hunger 99 likes worm worth 0");
        due("best(), none is worth anything", y.best(), -2);
        due("best() of no answers", pierOf(PIER + BAITS).best(), -2);
        HookPier z = eager("a plain at 1 depth 2 hunger 99 likes fly worth 9");
        due("best(), of like ones the first: 99 + 20 - 18 is more than 100, so none is lost by it", z.best(), 10);
        promise = 17;
        HookPier v = pierOf(ALL);
        due("bestBait()", v.bestBait(), 1);
        due("bestBait() of no answers", pierOf(PIER + BAITS).bestBait(), 0);
        HookPier w = eager("a boot at 0 depth 1 hunger 9 likes worm worth 9", "b plain at 0 depth 1 hunger 9 likes fly worth 9");
        due("bestBait(), the first of like ones", w.bestBait(), 0);
        HookPier u = eager("a boot at 0 depth 1 hunger 9 likes worm worth 9");
        due("bestBait(), a boot likes too", u.bestBait(), 1);
        promise = 18;
        due("hungerFor", v.hungerFor(0, 0, 1, 0), 30);
        due("hungerFor", v.hungerFor(0, 0, 1, 1), 50);
        due("hungerFor, a boot", v.hungerFor(2, 2, 2, 1), 70);
        due("hungerFor, a boot off", v.hungerFor(2, 4, 1, 1), 98);
        due("hungerFor, none", v.hungerFor(2, 4, 4, 1), -2);
        due("hungerFor, none", v.hungerFor(2, 0, 4, 1), -2);
        due("hungerFor, a crab", v.hungerFor(1, 1, 1, 1), 60);
        refusals(v, new QuestionCall() {
            public long of(int spot, int fathoms, int bait) {
                return v.hungerFor(0, spot, fathoms, bait);
            }
        });
        refused(v, "hungerFor(4, ..)", v.hungerFor(4, 0, 1, 0), 1);
    }

    // ---- 19 to 23

    private static void seats() {
        promise = 19;
        HookPier x = pierOf(ALL);
        due("freeSpots(0)", x.freeSpots(0), 31);
        x.let(0, 2, 1, 0);
        due("freeSpots(0), his own doesn't count", x.freeSpots(0), 31);
        due("freeSpots(1)", x.freeSpots(1), 0b10001);
        due("freeSpots(2)", x.freeSpots(2), 0b11011);
        refused(x, "freeSpots(3)", x.freeSpots(3), 1);
        refused(x, "freeSpots(-1)", x.freeSpots(-1), 1);
        promise = 20;
        due("tangles", x.tangles(0, 2, 1, 3), 1);
        due("tangles", x.tangles(0, 2, 1, 1), 1);
        due("tangles", x.tangles(0, 2, 1, 4), 0);
        due("tangles", x.tangles(0, 2, 2, 2), 1);
        due("tangles", x.tangles(0, 2, 2, 3), 0);
        refused(x, "like askers", x.tangles(1, 0, 1, 4), 1);
        refused(x, "no asker", x.tangles(3, 0, 1, 4), 1);
        refused(x, "no asker", x.tangles(0, 0, 3, 4), 1);
        refused(x, "no spot", x.tangles(0, 5, 1, 4), 1);
        refused(x, "no spot", x.tangles(0, 0, 1, -1), 1);
        promise = 21;
        // bob at an end: three spots left for two, 6 rows each; else two left, 2 rows each
        due("seatings()", x.seatings(), 18);
        HookPier none = pierOf(PIER + BAITS);
        refused(none, "seatings() of no askers", none.seatings(), 6);
        due("seatings() of five", eager().seatings(), 6720);
        HookPier full = pierOf("pier spots 2 deep 1 from 0 to 0;bait a;asker p reach 0;asker q reach 0;asker r reach 0");
        due("seatings() with too few spots", full.seatings(), 0);
        promise = 22;
        due("seat(0)", x.seat(0), 0);
        due("seat(1)", x.seat(1), 2);
        due("seat(2)", x.seat(2), 4);
        due("seat(0), no row", full.seat(0), -2);
        refused(x, "seat(3)", x.seat(3), 1);
        refused(x, "seat(-1)", x.seat(-1), 1);
        promise = 23;
        due("mostSeated()", x.mostSeated(), 7);
        due("mostSeated(), the least bits of like ones", full.mostSeated(), 3);
        HookPier wide = pierOf("pier spots 3 deep 1 from 0 to 0;bait a;asker p reach 3;asker q reach 0;asker r reach 1");
        due("mostSeated(), without the first", wide.mostSeated(), 6);
        due("mostSeated() of no askers", none.mostSeated(), 0);
    }

    // ---- 24 to 29

    private static void darkOnes() {
        // of hunger 40 it bites by 60 at its place with its bait, by 50 a spot off, by 52 a fathom off; else never
        HookPier x = pierOf(ALL);
        promise = 24;
        due("darks(): at 1 fathoms 2, a spot less, a fathom less or more", x.darks(), 4);
        HookPier none = pierOf(PIER + BAITS);
        refused(none, "darks(), nothing dark", none.darks(), 6);
        due("darks() without bites", pierOf(PIER + BAITS + ";dark hunger 0").darks(), 5 * 4 * 3);
        HookPier nowhere = pierOf(PIER + BAITS + ";dark hunger 29;bite 0 fathoms 1 bait fly yes");
        due("darks(), a WISH of 49 doesn't bite", nowhere.darks(), 0);
        due("darks(), a WISH of 50 bites", pierOf(PIER + BAITS + ";dark hunger 30;bite 0 fathoms 1 bait fly yes").darks(), 1);
        due("darks(), all places", pierOf("pier spots 8 deep 9 from 0 to 0;bait a;bait b;bait c;bait d;dark hunger 0").darks(), 288);
        String one = "pier spots 8 deep 1 from 0 to 0;bait a;bait b;dark hunger ";
        due("darks(), 10 less a spot: 80 less 30, 60 less 10", pierOf(one + "60;bite 0 fathoms 1 bait a yes").darks(), 4 + 2);
        due("darks(), 79 less 20, 59 less 0", pierOf(one + "59;bite 0 fathoms 1 bait a yes").darks(), 3 + 1);
        String deep = "pier spots 2 deep 9 from 0 to 0;bait a;bait b;dark hunger ";
        due("darks(), 8 less a fathom: 84 less 32, 74 less 24, 64 less 8, 54 less 0",
                pierOf(deep + "64;bite 0 fathoms 1 bait a yes").darks(), 5 + 4 + 2 + 1);
        due("darks(), 82 less 32, 72 less 16, 62 less 8, 52 less 0",
                pierOf(deep + "62;bite 0 fathoms 1 bait a yes").darks(), 5 + 3 + 2 + 1);
        promise = 25;
        int[] at = {20, 110, 120, 130};
        for (int i = 0; i < at.length; i++) {
            due("darkAt(" + i + ")", x.darkAt(i), at[i]);
        }
        refused(x, "darkAt(-1)", x.darkAt(-1), 1);
        refused(x, "darkAt(4)", x.darkAt(4), 1);
        refused(none, "darkAt(0), nothing dark", none.darkAt(0), 6);
        refused(nowhere, "darkAt(0), nowhere", nowhere.darkAt(0), 1);
        promise = 26;
        due("darkSpots()", x.darkSpots(), 3);
        due("darkSpots(), nowhere", nowhere.darkSpots(), 0);
        refused(none, "darkSpots(), nothing dark", none.darkSpots(), 6);
        promise = 27;
        due("ask()", x.ask(), 10);
        due("ask(), nowhere", nowhere.ask(), -2);
        refused(none, "ask(), nothing dark", none.ask(), 6);
        promise = 28;
        due("askLeaves()", x.askLeaves(), 2);
        due("askLeaves(), nowhere", nowhere.askLeaves(), -2);
        refused(none, "askLeaves(), nothing dark", none.askLeaves(), 6);
        promise = 29;
        judging();
    }

    private static void judging() {
        String text = PIER + BAITS + ";answer a plain at 1 depth 2 hunger 0 likes fly worth 1"
                + ";answer b crab at 1 depth 4 hunger 0 likes fly worth 1;answer c boot at 1 depth 2 hunger 99 likes fly worth 1"
                + ";answer d plain at 3 depth 2 hunger 99 likes rag worth 1;answer e plain at 2 depth 2 hunger 0 likes fly worth 1";
        HookPier x = pierOf(text + ";dark hunger 40;bite 1 fathoms 2 bait fly yes;bite 3 fathoms 2 bait fly no");
        due("judge(0), of the hunger told", x.judge(0), -2);
        due("judge(1), a crab stays one", x.judge(1), -2);
        due("judge(2), a boot stays one", x.judge(2), 0);
        due("judge(3)", x.judge(3), 0);
        due("judge(4)", x.judge(4), 1);
        refused(x, "judge(5)", x.judge(5), 1);
        refused(x, "judge(-1)", x.judge(-1), 1);
        HookPier none = pierOf(text);
        refused(none, "judge(0), nothing dark", none.judge(0), 6);
        refused(none, "judge(5), nothing dark", none.judge(5), 1);
        due("judge(0), no bites", pierOf(text + ";dark hunger 1").judge(0), -2);
    }

    // ---- 30 to 33

    private static void market() {
        promise = 30;
        HookPier x = pierOf(ALL);
        due("worth(0, 7, 7)", x.worth(0, 7, 7), 12);
        due("worth(0, 7, 9)", x.worth(0, 7, 9), 2);
        due("worth(0, 7, 10)", x.worth(0, 7, 10), 0);
        due("worth(1, 0, 3), a crab", x.worth(1, 0, 3), 35);
        due("worth(2, 1, 2), a boot", x.worth(2, 1, 2), 98);
        due("worth(2, 1, 999), a boot", x.worth(2, 1, 999), 99);
        due("worth(3, 0, 999), a cold one", x.worth(3, 0, 999), 20);
        refused(x, "worth(4, 0, 0)", x.worth(4, 0, 0), 1);
        refused(x, "worth(-1, 0, 0)", x.worth(-1, 0, 0), 1);
        refused(x, "worth(0, 1, 0)", x.worth(0, 1, 0), 2);
        refused(x, "worth(0, -1, 0)", x.worth(0, -1, 0), 2);
        refused(x, "worth(0, 0, 1000)", x.worth(0, 0, 1000), 2);
        refused(x, "worth(4, 1, 0)", x.worth(4, 1, 0), 1);
        HookPier y = letAll("a plain at 0 depth 1 hunger 99 likes fly worth 30", "b cold at 2 depth 1 hunger 0 likes fly worth 25",
                "c boot at 2 depth 1 hunger 99 likes fly worth 24", "d plain at 4 depth 1 hunger 99 likes fly worth 5",
                "e cold at 4 depth 1 hunger 99 likes fly worth 25");
        for (int i = 0; i < 40 && (y.answer(0, 6) == 0 || y.answer(2, 6) == 0 || y.answer(3, 6) == 0
                || y.answer(4, 6) == 0 || y.answer(1, 6) == 0); i++) {
            y.day();
            for (int k = 0; k < 5; k++) {
                y.let(k, k, 1, 0);
            }
        }
        due("all are landed", y.answer(0, 6) + y.answer(1, 6) + y.answer(2, 6) + y.answer(3, 6) + y.answer(4, 6), 5);
    }

    private static void loads() {
        HookPier y = eager("a plain at 0 depth 1 hunger 99 likes fly worth 30", "b cold at 2 depth 1 hunger 99 likes fly worth 25",
                "c boot at 4 depth 1 hunger 99 likes fly worth 24", "d plain at 6 depth 1 hunger 99 likes fly worth 5",
                "e cold at 7 depth 9 hunger 99 likes worm worth 25");
        promise = 31;
        due("load(6), none landed", y.load(6), 0);
        int[][] lines = {{0, 0, 1, 0}, {1, 2, 1, 0}, {2, 4, 1, 0}, {3, 6, 1, 0}, {4, 7, 9, 1}};
        // each day one line alone, at a spot where all answers ahead of its own are landed or taken by nobody
        for (int[] l : lines) {
            y.let(l[0], l[1], l[2], l[3]);
            for (int i = 0; i < 60 && y.answer(l[0], 6) == 0; i++) {
                y.day();
                if (y.asker(l[0], 1) == -2 && y.answer(l[0], 6) == 0) {
                    y.let(l[0], l[1], l[2], l[3]);
                }
            }
            due("landed", y.answer(l[0], 6), 1);
        }
        int days = y.size(6);
        due("as quick as can be", days, 5);
        // now: a 30 less 25 is 5, b 25, c 24 + 3 is 27, d 5 less 10 is 0, e 25
        due("load(0)", y.load(0), 0);
        due("load(1)", y.load(1), 4);
        due("load(2), the least bits of b and e", y.load(2), 6);
        due("load(3)", y.load(3), 0b10110);
        due("load(4)", y.load(4), 0b10111);
        due("load(6), one that is worth nothing stays", y.load(6), 0b10111);
        refused(y, "load(7)", y.load(7), 2);
        refused(y, "load(-1)", y.load(-1), 2);
        promise = 32;
        due("loadWorth(0)", y.loadWorth(0), 0);
        due("loadWorth(1)", y.loadWorth(1), 27);
        due("loadWorth(2)", y.loadWorth(2), 52);
        due("loadWorth(6)", y.loadWorth(6), 82);
        refused(y, "loadWorth(7)", y.loadWorth(7), 2);
        refused(y, "loadWorth(-1)", y.loadWorth(-1), 2);
        promise = 33;
        // the plain one loses its 5 tomorrow, the boot wins one a day: on the sixth it is worth more than now
        due("bestDay(), as late as it may", y.bestDay(), 20);
        promise = 43;
        due("sell(2)", y.sell(2), 27);
        due("size(8)", y.size(8), 27);
        promise = 31;
        due("load(1), one is sold", y.load(1), 2);
        promise = 33;
        due("bestDay(), now, as the boot is sold", y.bestDay(), 0);
        promise = 43;
        due("sell(3), worth nothing", y.sell(3), 0);
        due("sell(0)", y.sell(0), 5);
        refused(y, "sell(0), sold", y.sell(0), 5);
        due("size(8)", y.size(8), 32);
        refused(y, "sell(5)", y.sell(5), 1);
        refused(y, "sell(-1)", y.sell(-1), 1);
        promise = 33;
        due("bestDay(), all alike, the first", y.bestDay(), 0);
        promise = 49;
        for (int i = 0; i < 5; i++) {
            due("led(" + i + "), sold too", leads(y, i, i), true);
        }
        due("led(5)", leads(y, 5, -1), true);
        due("led(-1)", leads(y, -1, -1), true);
    }

    private static void smallLoads() {
        promise = 31;
        HookPier x = eager("a cold at 0 depth 1 hunger 99 likes fly worth 1");
        x.let(0, 0, 1, 0);
        due("day()", x.day(), 1);
        due("load(1)", x.load(1), 1);
        due("load(0)", x.load(0), 0);
        promise = 32;
        due("loadWorth(1)", x.loadWorth(1), 1);
        HookPier y = eager("a plain at 0 depth 1 hunger 99 likes fly worth 5");
        y.let(0, 0, 1, 0);
        due("day()", y.day(), 1);
        promise = 31;
        due("load(1), worth nothing", y.load(1), 0);
        promise = 33;
        HookPier z = eager("a boot at 0 depth 1 hunger 99 likes fly worth 98");
        for (int i = 0; i < 60 && z.answer(0, 6) == 0; i++) {
            z.let(0, 0, 1, 0);
            z.mark();
            z.day();
        }
        due("bestDay(), 99 since", z.bestDay(), 0);
        HookPier w = eager("a boot at 0 depth 1 hunger 99 likes fly worth 97");
        for (int i = 0; i < 60 && w.answer(0, 6) == 0; i++) {
            w.let(0, 0, 1, 0);
            w.day();
        }
        due("bestDay(), 98 now, 99 tomorrow", w.bestDay(), 1);
    }

    private static void bestDays() {
        promise = 33;
        HookPier x = eager("a boot at 0 depth 1 hunger 99 likes fly worth 90");
        due("bestDay(), none landed", x.bestDay(), 0);
        for (int i = 0; i < 60 && x.answer(0, 6) == 0; i++) {
            x.let(0, 0, 1, 0);
            x.day();
        }
        int kept = x.answer(0, 9);
        due("bestDay(), a boot till 99", x.bestDay(), 99 - kept);
    }

    // ---- 34 to 37

    private static void hooks() {
        promise = 34;
        HookPier x = eager("a plain at 0 depth 1 hunger 40 likes fly worth 9", "b plain at 7 depth 9 hunger 0 likes fly worth 9");
        x.let(0, 0, 1, 0);
        refused(x, "a line isn't out", x.hooks(0, 0, 1, 10, false), 5);
        refused(x, "a line isn't out", x.hooks(0, 1, 0, 10, false), 5);
        refused(x, "much, ahead of that", x.hooks(0, 0, 1, 1000, false), 2);
        x.let(1, 1, 1, 1);
        x.let(2, 1, 1, 0);
        x.let(3, 1, 1, 0);
        x.let(4, 7, 1, 0);
        // WISHES: 60, 30, 50, 50, 0
        due("60 and 30 of 10: 6 and 3, the one left to the first", x.hooks(0, 0, 1, 10, false), 7);
        due("60 and 30 of 10", x.hooks(0, 0, 1, 10, true), 3);
        due("30 and 60 of 10: the one left to the other", x.hooks(0, 1, 0, 10, false), 3);
        due("30 and 60 of 10", x.hooks(0, 1, 0, 10, true), 7);
        due("50 and 50 of 7, the first", x.hooks(0, 2, 3, 7, false), 4);
        due("50 and 50 of 7, the other", x.hooks(0, 2, 3, 7, true), 3);
        due("0 and 60 of 999", x.hooks(0, 4, 0, 999, false), 0);
        due("0 and 60 of 999", x.hooks(0, 4, 0, 999, true), 999);
        due("0 and 0 of 9", x.hooks(1, 0, 1, 9, false), 0);
        due("0 and 0 of 9", x.hooks(1, 0, 1, 9, true), 0);
        due("of nothing", x.hooks(0, 0, 1, 0, false), 0);
        refused(x, "like askers", x.hooks(0, 1, 1, 9, false), 1);
        refused(x, "no asker", x.hooks(0, 5, 1, 9, false), 1);
        refused(x, "no asker", x.hooks(0, 0, -1, 9, false), 1);
        refused(x, "no answer", x.hooks(2, 0, 1, 9, false), 1);
        refused(x, "much", x.hooks(0, 0, 1, -1, false), 2);
        refused(x, "no answer ahead of much", x.hooks(2, 0, 1, -1, false), 1);
    }

    private static void stocks() {
        HookPier x = pierOf(PIER + BAITS);
        promise = 35;
        due("lines(20, 3, 1)", x.lines(20, 3, 1, false), 9);
        due("lines(20, 3, 1)", x.lines(20, 3, 1, true), 3);
        due("lines(10, 2, 1), downwards", x.lines(10, 2, 1, false), 2);
        due("lines(10, 2, 1), downwards", x.lines(10, 2, 1, true), 1);
        due("lines(0, 6, 0)", x.lines(0, 6, 0, false), -12);
        due("lines(0, 6, 0)", x.lines(0, 6, 0, true), 0);
        due("lines(99, 0, 0)", x.lines(99, 0, 0, true), 0);
        due("lines(99, 6, 6)", x.lines(99, 6, 6, true), 37);
        long[] bad = {x.lines(100, 0, 0, true), x.lines(-1, 0, 0, true), x.lines(0, 7, 0, true), x.lines(0, -1, 0, true),
            x.lines(0, 0, 7, true), x.lines(0, 0, -1, true)};
        for (long b : bad) {
            due("lines, refused", b, -100);
        }
        due("trouble()", x.trouble(), 2);
        HookPier y = new HookPier();
        due("lines, no pier", y.lines(0, 0, 0, true), -100);
        due("trouble()", y.trouble(), 1);
        due("lines, no pier and a number", y.lines(-1, 0, 0, true), -100);
        due("trouble()", y.trouble(), 1);
        promise = 36;
        due("rests(0), no lines at all", x.rests(0), 1);
        due("rests(99)", x.rests(99), 1);
        due("rests(20)", x.rests(20), 5);
        // over 2 a line alone wins nothing and costs nothing: none, or one of either
        due("rests(2)", x.rests(2), 3);
        refused(x, "rests(-1)", x.rests(-1), 2);
        refused(x, "rests(100)", x.rests(100), 2);
        refused(y, "rests(-1), no pier", y.rests(-1), 1);
        promise = 37;
        due("rest(0)", x.rest(0), 0);
        due("rest(2)", x.rest(2), 0);
        due("rest(3), one line alone wins one", x.rest(3), 1);
        due("rest(99)", x.rest(99), 66);
        due("rest(20)", x.rest(20), 22);
        refused(x, "rest(-1)", x.rest(-1), 2);
        refused(x, "rest(100)", x.rest(100), 2);
        refused(y, "rest(0), no pier", y.rest(0), 1);
    }

    // ---- 38 to 40

    private static void forecasts() {
        // SEED 0 draws 74, 5624, 28632, ..: mod 100 they are 74, 24, 32
        HookPier x = pierOf("pier spots 8 deep 9 from 1 to 2;bait fly;asker ann reach 0;asker bob reach 3"
                + ";answer a crab at 0 depth 1 hunger 54 likes fly worth 1;answer b plain at 0 depth 1 hunger 5 likes fly worth 9"
                + ";answer c cold at 7 depth 1 hunger 99 likes fly worth 9");
        x.let(0, 0, 1, 0);
        promise = 38;
        due("landed(0, 0)", x.landed(0, 0), 0);
        // 74 isn't below 74, 24 is below 25
        due("landed(0, 1)", x.landed(0, 1), 1);
        due("landed(0, 3), days 1 and 2 are close", x.landed(0, 3), 1);
        refused(x, "landed(-1, 1)", x.landed(-1, 1), 2);
        refused(x, "landed(65537, 1)", x.landed(65537, 1), 2);
        refused(x, "landed(0, -1)", x.landed(0, -1), 2);
        refused(x, "landed(0, 61)", x.landed(0, 61), 2);
        due("landed(65536, 60)", x.landed(65536, 60) >= 0, true);
        promise = 39;
        due("landedIn(1, 0, 1)", x.landedIn(1, 0, 1), 1);
        due("landedIn(0, 0, 1)", x.landedIn(0, 0, 1), 0);
        due("landedIn(1, 0, 0)", x.landedIn(1, 0, 0), 0);
        refused(x, "landedIn(3, 0, 1)", x.landedIn(3, 0, 1), 1);
        refused(x, "landedIn(-1, 0, 61)", x.landedIn(-1, 0, 61), 1);
        refused(x, "landedIn(0, 65537, 1)", x.landedIn(0, 65537, 1), 2);
        refused(x, "landedIn(0, 0, 61)", x.landedIn(0, 0, 61), 2);
        promise = 40;
        due("crabs(0, 1)", x.crabs(0, 1), 0);
        // day 3 goes on with 28632: 32 is below 74, and the crab stays
        due("crabs(0, 4)", x.crabs(0, 4), 1);
        due("crabs(0, 3), close", x.crabs(0, 3), 0);
        due("crabs(5624, 1)", x.crabs(5624, 1), 1);
        refused(x, "crabs(-1, 1)", x.crabs(-1, 1), 2);
        refused(x, "crabs(65537, 1)", x.crabs(65537, 1), 2);
        refused(x, "crabs(0, 61)", x.crabs(0, 61), 2);
        refused(x, "crabs(0, -1)", x.crabs(0, -1), 2);
        promise = 38;
        due("nothing changes: SEED", x.size(7), 0);
        due("nothing changes: the day", x.size(6), 0);
        due("nothing changes: the line", x.asker(0, 1), 0);
        due("nothing changes: acts", x.size(9), 1);
        x.let(1, 3, 1, 0);
        due("landed(0, 1), tangled", x.landed(0, 1), 0);
        x.drawIn(1);
        x.drawIn(0);
        due("landed(0, 60), no line", x.landed(0, 60), 0);
    }

    private static void manyDaysAhead() {
        HookPier x = eager("a plain at 0 depth 1 hunger 99 likes fly worth 1", "b plain at 1 depth 1 hunger 99 likes fly worth 1",
                "c crab at 2 depth 1 hunger 99 likes fly worth 1", "d plain at 0 depth 1 hunger 99 likes fly worth 1");
        x.let(0, 0, 1, 0);
        promise = 38;
        due("landed(0, 1), one line has one", x.landed(0, 1), 1);
        // let down anew each day: a by 100, b by 100, then the crab, by 99, or d
        due("landed(0, 2)", x.landed(0, 2), 2);
        promise = 39;
        due("landedIn(0)", x.landedIn(0, 0, 9), 1);
        due("landedIn(1)", x.landedIn(1, 0, 9), 2);
        due("landedIn(2), a crab", x.landedIn(2, 0, 60), 0);
        promise = 40;
        due("crabs, each day but the ones that land", x.crabs(0, 60) + x.landed(0, 60) + missed(x), 60);
    }

    /** Days in which nothing takes the line of asker 0; found by going through them. */
    private static int missed(HookPier x) {
        int none = 0;
        int crabs = 0;
        int landed = 0;
        for (int n = 1; n <= 60; n++) {
            int c = x.crabs(0, n);
            int l = x.landed(0, n);
            none += c == crabs && l == landed ? 1 : 0;
            crabs = c;
            landed = l;
        }
        return none;
    }

    // ---- 41 to 48

    private static void acts() {
        promise = 41;
        HookPier x = pierOf(ALL);
        due("let", x.let(0, 2, 3, 1), true);
        due("trouble()", x.trouble(), 0);
        due("size(9)", x.size(9), 1);
        refused(x, "let, his line is out", x.let(0, 2, 3, 1), 5);
        refused(x, "let, no asker", x.let(3, 2, 3, 1), 1);
        refused(x, "let, no spot", x.let(1, 5, 3, 1), 1);
        refused(x, "let, no bait", x.let(1, 0, 3, 3), 1);
        refused(x, "let, fathoms", x.let(1, 0, 5, 0), 2);
        refused(x, "let, fathoms", x.let(0, 0, 0, 0), 2);
        due("let at the same spot", x.let(1, 2, 3, 1), true);
        due("size(9), refused ones aren't kept", x.size(9), 2);
        promise = 42;
        due("drawIn", x.drawIn(1), true);
        due("asker(1, 1)", x.asker(1, 1), -2);
        refused(x, "drawIn, it isn't out", x.drawIn(1), 5);
        refused(x, "drawIn, no asker", x.drawIn(3), 1);
        refused(x, "drawIn, no asker", x.drawIn(-1), 1);
        due("size(9)", x.size(9), 3);
        promise = 41;
        HookPier y = pierOf(PIER + BAITS + ASKERS + ";answer a plain at 0 depth 1 hunger 99 likes fly worth 9");
        y.let(0, 4, 4, 2);
        y.day();
        y.day();
        due("let on day 2", y.let(1, 4, 4, 2), true);
        y.day();
        refused(y, "let on day 3", y.let(2, 4, 4, 2), 5);
        refused(y, "let on day 3, fathoms", y.let(2, 4, 5, 2), 2);
        promise = 42;
        due("drawIn on a close day", y.drawIn(1), true);
        y.day();
        promise = 41;
        refused(y, "let on day 4", y.let(2, 4, 4, 2), 5);
        y.day();
        due("let on day 5", y.let(2, 4, 4, 2), true);
        promise = 43;
        refused(x, "sell, it isn't landed", x.sell(0), 5);
        promise = 45;
        due("seed(65536)", y.seed(65536), true);
        due("size(7)", y.size(7), 65536);
        int acts = y.size(9);
        due("seed(0)", y.seed(0), true);
        due("size(9), it is no act", y.size(9), acts);
        refused(y, "seed(-1)", y.seed(-1), 2);
        refused(y, "seed(65537)", y.seed(65537), 2);
    }

    private static void days() {
        promise = 44;
        String pier = "pier spots 8 deep 9 from 1 to 2;bait fly;asker ann reach 0;asker bob reach 3;asker cid reach 0";
        HookPier x = pierOf(pier + ";answer a crab at 0 depth 1 hunger 55 likes fly worth 1"
                + ";answer b plain at 0 depth 1 hunger 5 likes fly worth 9;answer c cold at 7 depth 1 hunger 99 likes fly worth 9");
        x.let(0, 0, 1, 0);
        x.let(2, 7, 1, 0);
        // 74 is below 75: the crab has the first one's bait; of the third one's nothing but the cold one wishes any
        due("day()", x.day(), 4);
        due("asker(0, 1), a crab has the bait", x.asker(0, 1), -2);
        due("asker(2, 1)", x.asker(2, 1), -2);
        due("answer(0, 6), the crab stays", x.answer(0, 6), 0);
        due("answer(2, 6)", x.answer(2, 6), 1);
        due("answer(2, 7)", x.answer(2, 7), 0);
        due("answer(2, 8)", x.answer(2, 8), 2);
        due("size(6)", x.size(6), 1);
        due("size(7), four draws", x.size(7), drawn(0, 4));
        due("day(), close", x.day(), 0);
        due("size(7), no draws", x.size(7), drawn(0, 4));
        HookPier tangled = pierOf(pier + ";answer a plain at 0 depth 1 hunger 99 likes fly worth 1");
        tangled.let(0, 0, 1, 0);
        tangled.let(1, 3, 1, 0);
        due("day(), tangled", tangled.day(), 0);
        due("size(7), no draws", tangled.size(7), 0);
        due("asker(0, 1), still out", tangled.asker(0, 1), 0);
        twoLines(pier);
        HookPier late = eager();
        for (int i = 0; i < 300; i++) {
            late.day();
        }
        due("size(6)", late.size(6), 300);
        // beyond 512 calls answers are free, yet none may go beyond the days that the document knows
        for (int i = 300; i < 999; i++) {
            late.day();
        }
        refused(late, "day(), 999 went by", late.day(), 3);
        due("size(6)", late.size(6), 999);
    }

    private static void twoLines(String pier) {
        HookPier x = pierOf(pier + ";answer a plain at 0 depth 1 hunger 99 likes fly worth 1;answer b plain at 0 depth 1 hunger 99 likes fly worth 1");
        x.let(0, 0, 1, 0);
        x.let(2, 1, 1, 0);
        due("day(), what is landed isn't there for the next", x.day(), 3);
        due("size(7), two draws", x.size(7), drawn(0, 2));
        due("answer(1, 8)", x.answer(1, 8), 2);
        HookPier y = pierOf(pier + ";answer a plain at 0 depth 1 hunger 99 likes fly worth 1;answer b plain at 3 depth 1 hunger 0 likes fly worth 1");
        y.let(0, 0, 1, 0);
        y.let(1, 3, 1, 0);
        y.let(2, 7, 1, 0);
        y.day();
        due("size(7), only the third fishes: two draws", y.size(7), drawn(0, 2));
    }

    private static int drawn(int seed, int times) {
        long s = seed;
        for (int i = 0; i < times; i++) {
            s = (75 * s + 74) % 65537;
        }
        return (int) s;
    }

    private static void undoing() {
        promise = 46;
        HookPier x = eager("a plain at 0 depth 1 hunger 99 likes fly worth 30");
        refused(x, "undo(), nothing yet", x.undo(), 6);
        x.seed(5);
        x.let(0, 0, 1, 0);
        x.seed(7);
        x.day();
        x.sell(0);
        due("size(8)", x.size(8), 25);
        due("undo()", x.undo(), true);
        due("trouble()", x.trouble(), 0);
        due("size(8)", x.size(8), 0);
        due("answer(0, 6)", x.answer(0, 6), 1);
        due("undo()", x.undo(), true);
        due("answer(0, 6)", x.answer(0, 6), 0);
        due("answer(0, 8)", x.answer(0, 8), -2);
        due("size(6)", x.size(6), 0);
        due("size(7)", x.size(7), 7);
        due("asker(0, 1)", x.asker(0, 1), 0);
        due("undo()", x.undo(), true);
        due("asker(0, 1)", x.asker(0, 1), -2);
        due("size(7), SEED too", x.size(7), 5);
        refused(x, "undo()", x.undo(), 6);
        for (int i = 0; i < 20; i++) {
            x.day();
        }
        due("size(9)", x.size(9), 16);
        for (int i = 0; i < 16; i++) {
            due("undo()", x.undo(), true);
        }
        due("size(6), 16 are kept", x.size(6), 4);
        refused(x, "undo()", x.undo(), 6);
    }

    private static void marking() {
        promise = 47;
        HookPier x = eager("a plain at 0 depth 1 hunger 99 likes fly worth 30");
        x.seed(5);
        due("mark()", x.mark(), 0);
        due("size(9), it is no act", x.size(9), 0);
        x.let(0, 0, 1, 0);
        due("mark()", x.mark(), 1);
        x.day();
        x.sell(0);
        due("mark()", x.mark(), 2);
        due("size(10)", x.size(10), 3);
        refused(x, "mark()", x.mark(), 3);
        due("size(10)", x.size(10), 3);
        promise = 48;
        due("back(1)", x.back(1), true);
        due("trouble()", x.trouble(), 0);
        due("size(6)", x.size(6), 0);
        due("size(8)", x.size(8), 0);
        due("answer(0, 6)", x.answer(0, 6), 0);
        due("asker(0, 1)", x.asker(0, 1), 0);
        due("size(9), nothing can be undone", x.size(9), 0);
        refused(x, "undo()", x.undo(), 6);
        due("size(10), all marks stay", x.size(10), 3);
        x.drawIn(0);
        due("back(2)", x.back(2), true);
        due("size(8)", x.size(8), 25);
        due("answer(0, 6)", x.answer(0, 6), 2);
        due("back(0)", x.back(0), true);
        due("asker(0, 1)", x.asker(0, 1), -2);
        due("size(7)", x.size(7), 5);
        due("back(1), again", x.back(1), true);
        due("asker(0, 1), the mark wasn't changed", x.asker(0, 1), 0);
        refused(x, "back(3)", x.back(3), 1);
        refused(x, "back(-1)", x.back(-1), 1);
        x.day();
        x.undo();
        due("size(10), undoing leaves marks", x.size(10), 3);
        HookPier y = new HookPier();
        refused(y, "back(0), no pier", y.back(0), 1);
    }

    /** A day and an asker who landed come back with a MARK, too. */
    private static void markOfLanded() {
        promise = 48;
        HookPier x = eager("a plain at 0 depth 1 hunger 99 likes fly worth 30");
        x.let(0, 0, 1, 0);
        x.day();
        x.mark();
        x.undo();
        x.drawIn(0);
        x.day();
        x.let(3, 0, 1, 0);
        x.day();
        due("answer(0, 7)", x.answer(0, 7), 1);
        due("answer(0, 8)", x.answer(0, 8), 3);
        x.back(0);
        due("answer(0, 7)", x.answer(0, 7), 0);
        due("answer(0, 8)", x.answer(0, 8), 0);
    }

    // ---- 49 to 51

    private static void tellings() {
        promise = 49;
        HookPier x = eager("a plain at 7 depth 9 hunger 0 likes fly worth 30", "b plain at 0 depth 1 hunger 99 likes fly worth 30",
                "c plain at 7 depth 9 hunger 0 likes fly worth 30", "d plain at 1 depth 1 hunger 99 likes fly worth 30");
        due("led(0) of none", leads(x, 0, -1), true);
        x.let(0, 0, 1, 0);
        x.let(1, 1, 1, 0);
        due("day()", x.day(), 0b1010);
        due("led(0)", leads(x, 0, 1), true);
        due("led(1)", leads(x, 1, 3), true);
        due("led(2)", leads(x, 2, -1), true);
        due("led(-1)", leads(x, -1, -1), true);
        promise = 50;
        HookPier y = pierOf(ALL);
        long[] sizes = {5, 4, 3, 3, 4, 2, 0, 0, 0, 0, 0, 0};
        for (int what = 0; what < 12; what++) {
            due("size(" + what + ")", y.size(what), sizes[what]);
        }
        due("size(12)", y.size(12), -1);
        due("size(-1)", y.size(-1), -1);
        due("size(12), no pier", new HookPier().size(12), -1);
        promise = 51;
        y.size(12);
        due("trouble(), size isn't of those", y.trouble(), 0);
        y.best();
        due("trouble()", y.trouble(), 0);
        y.load(9);
        due("trouble()", y.trouble(), 2);
        y.trouble();
        y.where();
        y.fault();
        y.size(-1);
        leads(y, 9, 9);
        y.feed(0, 0, 0, 0, 0);
        due("trouble(), of the latest that may be refused", y.trouble(), 2);
        y.load(0);
        due("trouble()", y.trouble(), 0);
    }

    public static void main(String[] args) {
        newObject();
        feeding();
        piers();
        pierBehindSelling();
        cutTexts();
        fullText();
        forms();
        namesAndBounds();
        manyAndLacks();
        faultsAndPlaces();
        answers();
        askers();
        closeDays();
        wishes();
        takings();
        takingsOfThoseThere();
        surests();
        bests();
        seats();
        darkOnes();
        market();
        loads();
        smallLoads();
        bestDays();
        hooks();
        stocks();
        forecasts();
        manyDaysAhead();
        acts();
        days();
        undoing();
        marking();
        markOfLanded();
        tellings();
        int[] asked = ASKED.clone();
        for (promise = 1; promise <= 51; promise++) {
            due("asked of it at all", asked[promise] > 0, true);
            System.out.println("promise " + promise + ": " + asked[promise] + " answers, " + WRONG[promise] + " not as due");
        }
        System.out.println(wrong == 0 ? "all answers are as due" : wrong + " answers are not as due");
        if (wrong != 0) {
            System.exit(1);
        }
    }
}
