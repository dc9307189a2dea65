import java.lang.reflect.InvocationTargetException;
import java.lang.reflect.Method;
import java.lang.reflect.Modifier;
import java.util.Arrays;
import java.util.Comparator;
import java.util.NoSuchElementException;
import java.util.Random;

/**
 * The boundary cases that the document names (too small, too large, empty, full, a wrap-around, a refused call),
 * promise by promise: of each method here the number is the promise's, of each edge the text is what the document
 * says there. Answers are reckoned by hand.
 */
public final class HookPierEdges {
    private static final String PIER = "pier spots 5 deep 4 from 3 to 4";
    private static final String BAIT = PIER + ";bait fly";
    private static final String WIDE = "pier spots 8 deep 9 from 60 to 60;bait fly;bait worm";
    private static final String FIVE = ";asker ann reach 0;asker bob reach 0;asker cid reach 0;asker dan reach 0;asker eve reach 0";
    /** 75 times it and 74 is it again, mod 65,537: every DRAW is 36, so a WISH of 37 takes and one of 36 doesn't. */
    private static final int STILL = 65536;
    /** The SEED ahead of a DRAW of 0, and the one ahead of a DRAW of 99. */
    private static final int AHEAD_OF_0 = 45438;
    private static final int AHEAD_OF_99 = 21846;
    private static final int LEAST = Integer.MIN_VALUE;
    private static final int MOST = Integer.MAX_VALUE;

    private static int promise = 0;
    private static int wrong = 0;
    private static int edges = 0;
    private static final int[] EDGES = new int[52];
    private static final int[] WRONG = new int[52];

    private static void edge(String words, long got, long want) {
        edges++;
        EDGES[promise]++;
        if (got != want) {
            wrong++;
            WRONG[promise]++;
            System.out.println("promise " + promise + ": " + words + ": answered " + got + ", due is " + want);
        }
    }

    private static void edge(String words, boolean got, boolean want) {
        edge(words, got ? 1 : 0, want ? 1 : 0);
    }

    private static void refused(HookPier x, String words, long got, int why) {
        edge(words, got, -1);
        edge(words + ", trouble()", x.trouble(), why);
    }

    private static void refused(HookPier x, String words, boolean got, int why) {
        edge(words, got, false);
        edge(words + ", trouble()", x.trouble(), why);
    }

    private static void taken(HookPier x, String words, long got, long want) {
        edge(words, got, want);
        edge(words + ", trouble()", x.trouble(), 0);
    }

    private static void feed(HookPier x, String text) {
        for (int i = 0; i < text.length(); i += 20) {
            int[] n = new int[5];
            for (int j = 0; j < 20; j++) {
                n[j / 4] = n[j / 4] << 8 | (i + j < text.length() ? text.charAt(i + j) : ' ');
            }
            x.feed(n[0], n[1], n[2], n[3], n[4]);
        }
    }

    private static int tell(HookPier x, String text) {
        feed(x, text);
        return x.pier(text.length());
    }

    private static HookPier pierOf(String text) {
        HookPier x = new HookPier();
        if (tell(x, text) < 0) {
            wrong++;
            WRONG[promise]++;
            System.out.println("promise " + promise + ": fault " + x.fault() + " at " + x.where() + " in " + text);
        }
        return x;
    }

    /** An answer's LINE. */
    private static String answer(String name, String kind, int at, int depth, int hunger, String likes, int worth) {
        return ";answer " + name + " " + kind + " at " + at + " depth " + depth + " hunger " + hunger + " likes " + likes
                + " worth " + worth;
    }

    /** A wide PIER with five askers of reach 0, and a SEED by which every DRAW is 36. */
    private static HookPier still(String answers) {
        HookPier x = pierOf(WIDE + FIVE + answers);
        x.seed(STILL);
        return x;
    }

    private static void fault(String words, String text, int number, int place) {
        HookPier x = new HookPier();
        refused(x, words + " in " + text, tell(x, text), 4);
        edge(words + ", fault() of " + text, x.fault(), number);
        edge(words + ", where() of " + text, x.where(), place);
    }

    /** The place is that of the sign |, which isn't told. */
    private static void faultAt(String words, int number, String text) {
        int place = text.indexOf('|');
        fault(words, text.substring(0, place) + text.substring(place + 1), number, place);
    }

    private static void good(String words, String text) {
        HookPier x = new HookPier();
        int answers = tell(x, text);
        edge(words + " of " + text, answers < 0 ? 1000 * x.fault() + x.where() : 0, 0);
        edge(words + ", fault() of " + text, x.fault(), 0);
    }

    /** What led(i) answers; NONE if it throws. */
    private static int ledBy(HookPier x, int i) {
        try {
            return x.led(i);
        } catch (NoSuchElementException e) {
            return HookPier.NONE;
        }
    }

    private static String repeated(String text, int times) {
        return text.repeat(times);
    }

    // ---- the pier

    private static void p1() {
        HookPier x = new HookPier();
        for (int what = 0; what <= 11; what++) {
            edge("no PIER: size(" + what + ") is 0", x.size(what), 0);
        }
        edge("no FAULT yet", x.fault(), 0);
        edge("no place yet", x.where(), -1);
        edge("no TROUBLE yet", x.trouble(), 0);
        edge("none is landed", ledBy(x, 0), -1);
        refused(x, "no PIER", x.best(), 1);
        HookPier told = pierOf(BAIT);
        HookPier other = new HookPier();
        edge("a PIER is its object's alone", other.size(0), 0);
        refused(other, "a PIER is its object's alone", other.best(), 1);
        taken(told, "a PIER is its object's alone", told.best(), -2);
        other.feed(0, 0, 0, 0, 0);
        edge("THE TAPE is its object's alone", told.size(11), 0);
    }

    private static void p2() {
        for (int i = 0; i < 20; i++) {
            HookPier x = new HookPier();
            feed(x, repeated(" ", i) + "!" + repeated(" ", 19 - i));
            x.pier(20);
            edge("twenty bytes, of each number the highest first", x.where(), i);
        }
        HookPier x = new HookPier();
        for (int i = 1; i <= 44; i++) {
            edge("how many it has", x.feed(0x20202020, 0x20202020, 0x20202020, 0x20202020, 0x20202020), 20L * i);
        }
        edge("just 900", x.feed(0x20202020, 0x20202020, 0x20202020, 0x20202020, 0x20202121), 900);
        edge("more than 900", x.feed(0x21212121, 0x21212121, 0x21212121, 0x21212121, 0x21212121), -1);
        edge("none comes", x.size(11), 900);
        edge("more than 900, again", x.feed(0, 0, 0, 0, 0), -1);
        edge("no number is told, so TROUBLE stays", x.trouble(), 0);
        x.pier(900);
        edge("none has come in place of others", x.where(), 898);
        edge("THE TAPE is empty, so there is room again", x.feed(LEAST, MOST, -1, 0, 1), 20);
        x.pier(20);
        edge("a highest byte of 128 begins no TOKEN", x.where(), 0);
        HookPier y = new HookPier();
        y.feed(0x20202020, 0x202020ff, 0, 0, 0);
        y.pier(20);
        edge("a lowest byte of 255", y.where(), 7);
    }

    private static void p3() {
        HookPier x = new HookPier();
        refused(x, "more bytes than none", x.pier(1), 2);
        feed(x, BAIT + "        ;;;");
        int fed = x.size(11);
        for (int n : new int[] {LEAST, -1, fed + 1, 901, MOST}) {
            refused(x, "no such n", x.pier(n), 2);
            edge("THE TAPE stays", x.size(11), fed);
        }
        taken(x, "the first n bytes alone", x.pier(BAIT.length() + 8), 0);
        edge("it is empty then", x.size(11), 0);
        feed(x, BAIT);
        refused(x, "0 bytes are no PIER", x.pier(0), 4);
        edge("it is empty then", x.size(11), 0);
        refused(x, "no byte is there any more", x.pier(1), 2);
        StringBuilder text = new StringBuilder(BAIT);
        for (int many = 1; many <= 6; many++) {
            text.append(answer("abcdef".substring(many - 1, many), "plain", 0, 1, 0, "fly", 0));
            taken(x, "how many answers", tell(x, text.toString()), many);
        }
        String full = BAIT + repeated(" ", 900 - BAIT.length() - 7) + ";bait w";
        edge("a full TAPE", full.length(), 900);
        taken(x, "all 900 bytes", tell(x, full), 0);
        edge("all 900 bytes", x.size(2), 2);
    }

    private static void p3Stays() {
        String askers = ";asker ann reach 2";
        String one = BAIT + askers + answer("a", "plain", 0, 1, 99, "fly", 30) + ";dark hunger 70;bite 0 fathoms 1 bait fly no";
        HookPier x = pierOf(one);
        x.seed(5);
        x.let(0, 0, 1, 0);
        x.mark();
        x.day();
        x.sell(0);
        // the text is good and other up to its end, where its FAULT is
        String other = "pier spots 8 deep 9 from 0 to 60;bait b;bait c;asker d reach 3;asker e reach 1"
                + answer("f", "boot", 7, 9, 11, "c", 12) + answer("g", "crab", 7, 9, 11, "c", 12)
                + ";dark hunger 7;bite 7 fathoms 9 bait c yes;bite 7 fathoms 9 bait c";
        long[] sizes = {5, 4, 1, 1, 1, 1, 1, (75 * 5 + 74) % 65537, 25, 3, 1, 0};
        refused(x, "4: the PIER stays", tell(x, other), 4);
        for (int what = 0; what <= 11; what++) {
            edge("the PIER stays, size(" + what + ")", x.size(what), sizes[what]);
        }
        long[] told = {0, 0, 1, 99, 0, 30, 2, 0, 0, -2};
        for (int what = 0; what <= 9; what++) {
            edge("the PIER stays, answer(0, " + what + ")", x.answer(0, what), told[what]);
        }
        edge("the PIER stays: reach", x.asker(0, 0), 2);
        edge("the PIER stays: close season", x.close(3) * 10 + x.close(2), 10);
        // 90 less 10 a spot and 8 a fathom is below 50 from two spots and three fathoms on
        edge("the PIER stays: the dark and its bite", x.darkAt(0), 240);
        edge("what can be undone stays", x.undo(), true);
        edge("MARKS stay", x.back(0), true);
        edge("the line as it was by the MARK", x.asker(0, 2), 1);
        feed(x, other);
        refused(x, "2: the PIER stays", x.pier(-1), 2);
        edge("2: the PIER stays", x.size(0), 5);
    }

    private static void p3Anew() {
        HookPier x = pierOf(BAIT + ";asker ann reach 0" + answer("a", "plain", 0, 1, 99, "fly", 30)
                + ";dark hunger 5;bite 0 fathoms 1 bait fly no");
        x.let(0, 0, 1, 0);
        x.seed(9);
        x.day();
        x.mark();
        x.sell(0);
        x.let(0, 0, 1, 0);
        taken(x, "from now on", tell(x, BAIT + ";asker bob reach 1" + answer("b", "cold", 1, 2, 3, "fly", 4)), 1);
        long[] sizes = {5, 4, 1, 1, 1, 0, 0, 0, 0, 0, 0, 0};
        for (int what = 0; what <= 11; what++) {
            edge("day 0, SEED 0, nothing to undo, no MARKS: size(" + what + ")", x.size(what), sizes[what]);
        }
        long[] told = {1, 1, 2, 3, 0, 4, 0, -2, -2, -2};
        for (int what = 0; what <= 9; what++) {
            edge("all answers there: answer(0, " + what + ")", x.answer(0, what), told[what]);
        }
        long[] asker = {1, -2, -2, -2, 0, 0};
        for (int what = 0; what <= 5; what++) {
            edge("no line out: asker(0, " + what + ")", x.asker(0, what), asker[what]);
        }
        refused(x, "nothing to undo", x.undo(), 6);
        refused(x, "no MARKS", x.back(0), 1);
        refused(x, "no dark of an older one", x.darks(), 6);
        edge("none is landed", ledBy(x, 0), -1);
        edge("MARKS begin anew", x.mark(), 0);
    }

    /** Full ones and bare ones in turns: nothing of an older one is left. */
    private static void p3Turns() {
        String full = WIDE + FIVE + six() + ";dark hunger 50" + repeated(";bite 0 fathoms 1 bait fly no", 6);
        String bare = "pier spots 2 deep 1 from 0 to 0;bait fly";
        long[] fullSizes = {8, 9, 2, 5, 6, 6};
        long[] bareSizes = {2, 1, 1, 0, 0, 0};
        HookPier x = new HookPier();
        for (int turn = 0; turn < 3; turn++) {
            for (int again = 0; again <= turn; again++) {
                taken(x, "a full one", tell(x, full), 6);
                for (int what = 0; what <= 5; what++) {
                    edge("of a full one, size(" + what + ")", x.size(what), fullSizes[what]);
                }
            }
            for (int again = 0; again <= turn; again++) {
                taken(x, "a bare one", tell(x, bare), 0);
                for (int what = 0; what <= 5; what++) {
                    edge("of a bare one, size(" + what + ")", x.size(what), bareSizes[what]);
                }
                refused(x, "a bare one has no dark", x.darks(), 6);
                refused(x, "a bare one has no asker", x.seatings(), 6);
            }
        }
    }

    private static void p4() {
        HookPier x = new HookPier();
        edge("0 without one", x.fault(), 0);
        x.pier(1);
        edge("refused by 2, none else yet", x.fault(), 0);
        tell(x, "pier spots 9");
        edge("the FAULT", x.fault(), 4);
        x.pier(1);
        x.best();
        x.feed(0, 0, 0, 0, 0);
        edge("of the latest pier() not refused by 2", x.fault(), 4);
        x.pier(0);
        edge("of the latest", x.fault(), 1);
        tell(x, BAIT);
        edge("0 without one", x.fault(), 0);
        x.pier(-1);
        edge("0 still, refused by 2", x.fault(), 0);
    }

    private static void p4Tokens() {
        good("blanks mean nothing else", "   pier   spots 5 deep  4 from 3 to 4  ;  bait   fly   ");
        good("no blank is needed at ;", "pier spots 5 deep 4 from 3 to 4;bait fly;bait worm");
        good("a WORD of 1 letter", PIER + ";bait a");
        good("a WORD of 8 letters", PIER + ";bait abcdefgh");
        faultAt("a WORD of 9 letters", 1, PIER + ";bait |abcdefghi");
        faultAt("a WORD of 9 letters, of which the first 8 would do", 1, PIER + ";bait abcdefgh;answer x plain at 0 depth 1"
                + " hunger 1 likes |abcdefghi worth 1");
        good("letters a and z", PIER + ";bait az;bait za;bait aa;bait zz");
        good("a WHOLE of 2 digits", "pier spots 05 deep 04 from 09 to 10;bait fly");
        faultAt("a WHOLE of 3 digits", 1, "pier spots |005 deep 4");
        good("digits 0 and 9", "pier spots 8 deep 9 from 0 to 9;bait fly");
        int[] strange = {0, 9, 10, 31, 33, 47, 58, 60, 65, 90, 96, 123, 127, 128, 160, 255};
        for (int c : strange) {
            faultAt("a byte that begins no TOKEN: " + c, 1, PIER + ";bait |" + (char) c);
            faultAt("a byte that begins no TOKEN: " + c, 1, "pier spots 5|" + (char) c);
        }
        faultAt("the first byte that begins no TOKEN", 1, PIER + ";bait fly|?!");
        faultAt("a byte that begins no TOKEN, behind a FAULT", 4, "pier spots |9 !");
        faultAt("single ones of ;", 1, PIER + ";bait fly;|;bait worm");
        faultAt("; at the beginning", 1, "|;" + BAIT);
        faultAt("; at the end", 1, BAIT + ";|");
        faultAt("; at the end, blanks behind", 1, BAIT + ";  |");
    }

    /** A text that ends behind each of its TOKENS, and one that goes on with what doesn't go on. */
    private static void p4Ends() {
        fault("the end: its place", "", 1, 0);
        fault("the end: its place", "    ", 1, 4);
        String[] lines = {"pier spots 5 deep 4 from 3 to 4", "bait fly", "asker ann reach 0",
            "answer a plain at 0 depth 1 hunger 5 likes fly worth 1", "dark hunger 5", "bite 0 fathoms 1 bait fly yes"};
        StringBuilder told = new StringBuilder();
        for (String line : lines) {
            String ahead = told.length() == 0 ? "" : told + ";";
            String[] tokens = line.split(" ");
            StringBuilder part = new StringBuilder(ahead);
            for (int i = 0; i < tokens.length; i++) {
                if (i > 0) {
                    faultAt("the end: its place", 1, part + "|");
                    faultAt("a TOKEN with which no PIER goes on", 1, part + " |;");
                    boolean whole = tokens[i].matches("[0-9]+");
                    faultAt("a TOKEN with which no PIER goes on", 1, part + " |" + (whole ? "zz" : "7"));
                    faultAt("a TOKEN with which no PIER goes on", 1, part + " |bite");
                }
                part.append(i == 0 ? "" : " ").append(tokens[i]);
            }
            faultAt("a LINE goes on behind its end", 1, part + " |zz");
            faultAt("a LINE goes on behind its end", 1, part + " |7");
            told = part;
        }
        good("all LINES", told.toString());
        faultAt("no such LINE", 1, PIER + ";|worm fly");
        faultAt("no such LINE", 1, PIER + ";|7");
        faultAt("a WORD that only begins like one", 1, PIER + ";|baits fly");
        faultAt("a WORD that one begins with", 1, PIER + ";|bai fly");
        everyLetter(lines);
    }

    /** Each WORD that must stand there, with one letter of it another one. */
    private static void everyLetter(String[] lines) {
        String names = " fly ann a ";
        StringBuilder told = new StringBuilder();
        for (String line : lines) {
            told.append(told.length() == 0 ? "" : ";");
            for (String token : line.split(" ")) {
                boolean fixed = token.matches("[a-z]+") && !names.contains(" " + token + " ");
                for (int i = 0; i < token.length() && fixed; i++) {
                    faultAt("another WORD", 1, told + "|" + token.substring(0, i) + "x" + token.substring(i + 1));
                }
                told.append(token).append(' ');
            }
        }
    }

    private static void p4Names() {
        for (String word : new String[] {"pier", "bait", "asker", "answer", "dark", "bite"}) {
            faultAt("NAMES are WORDS but these: a bait", 1, PIER + ";bait |" + word);
            faultAt("NAMES are WORDS but these: an asker", 1, PIER + ";asker |" + word + " reach 0");
            faultAt("NAMES are WORDS but these: an answer", 1, PIER + ";answer |" + word + " plain");
            faultAt("NAMES are WORDS but these: a BAIT", 1, BAIT + ";dark hunger 1;bite 0 fathoms 1 bait |" + word + " yes");
        }
        for (String word : new String[] {"spots", "deep", "from", "to", "reach", "plain", "at", "depth", "hunger", "likes",
            "worth", "fathoms", "yes", "no"}) {
            good("other WORDS are NAMES", PIER + ";bait " + word + ";dark hunger 1;bite 0 fathoms 1 bait " + word + " no");
            good("other WORDS are NAMES", BAIT + ";asker " + word + " reach 0");
            good("other WORDS are NAMES", BAIT + answer(word, "crab", 0, 1, 1, "fly", 1));
        }
        faultAt("2 a NAME that isn't told", 2, BAIT + ";answer a plain at 0 depth 1 hunger 1 likes |worm worth 1");
        faultAt("2 told, but not ahead of its use", 2,
                BAIT + ";answer a plain at 0 depth 1 hunger 1 likes |worm worth 1;bait worm");
        faultAt("2 an asker where a bait must stand", 2,
                BAIT + ";asker ann reach 0;answer a plain at 0 depth 1 hunger 1 likes |ann worth 1");
        faultAt("2 an answer where a bait must stand", 2,
                BAIT + answer("a", "cold", 0, 1, 1, "fly", 1) + ";dark hunger 1;bite 0 fathoms 1 bait |a yes");
        faultAt("2 the answer itself", 2, BAIT + ";answer a plain at 0 depth 1 hunger 1 likes |a worth 1");
        faultAt("2 a NAME that one begins with", 2, BAIT + ";dark hunger 1;bite 0 fathoms 1 bait |fl yes");
        faultAt("2 a NAME that begins like one", 2, BAIT + ";dark hunger 1;bite 0 fathoms 1 bait |flyy yes");
        String[] tells = {";bait |x", ";asker |x reach 0", ";answer |x plain at 0 depth 1 hunger 1 likes fly worth 1"};
        for (String first : tells) {
            for (String second : tells) {
                faultAt("3 a NAME told again, of whatever sort", 3, BAIT + first.replace("|", "") + second);
            }
        }
        faultAt("3 a second pier", 3, BAIT + ";|" + PIER);
        faultAt("3 a second pier, at that WORD, whatever comes", 3, BAIT + ";|pier");
        faultAt("3 a second pier, right behind", 3, PIER + ";|pier spots 99");
        faultAt("3 a second dark", 3, BAIT + ";dark hunger 1;|dark hunger 1");
        faultAt("3 a second dark, at that WORD, whatever comes", 3, BAIT + ";dark hunger 1;|dark 7");
    }

    /** Each WHOLE: what is ahead of it and behind it, the least and the most that it may be. */
    private static void p4Wholes() {
        String answer = BAIT + ";answer a plain at ";
        bounds("pier spots ", " deep 4 from 3 to 4;bait fly", 2, 8);
        bounds("pier spots 5 deep ", " from 3 to 4;bait fly", 1, 9);
        bounds("pier spots 5 deep 4 from ", " to 60;bait fly", 0, 60);
        bounds("pier spots 5 deep 4 from 0 to ", ";bait fly", 0, 60);
        bounds("pier spots 5 deep 4 from 17 to ", ";bait fly", 17, 60);
        bounds("pier spots 5 deep 4 from 60 to ", ";bait fly", 60, 60);
        bounds(BAIT + ";asker ann reach ", "", 0, 3);
        bounds(answer, " depth 1 hunger 1 likes fly worth 1", 0, 4);
        bounds(answer + "0 depth ", " hunger 1 likes fly worth 1", 1, 4);
        bounds(answer + "0 depth 1 hunger ", " likes fly worth 1", 0, 99);
        bounds(answer + "0 depth 1 hunger 1 likes fly worth ", "", 0, 99);
        bounds(BAIT + ";dark hunger ", "", 0, 99);
        bounds(BAIT + ";dark hunger 1;bite ", " fathoms 1 bait fly no", 0, 4);
        bounds(BAIT + ";dark hunger 1;bite 0 fathoms ", " bait fly yes", 1, 4);
        bounds("pier spots 2 deep 1 from 0 to 0;bait fly;answer a boot at ", " depth 1 hunger 1 likes fly worth 1", 0, 1);
        bounds("pier spots 2 deep 1 from 0 to 0;bait fly;answer a boot at 0 depth ", " hunger 1 likes fly worth 1", 1, 1);
        bounds("pier spots 8 deep 9 from 0 to 0;bait fly;dark hunger 0;bite ", " fathoms 1 bait fly no", 0, 7);
        bounds("pier spots 8 deep 9 from 0 to 0;bait fly;dark hunger 0;bite 0 fathoms ", " bait fly yes", 1, 9);
        faultAt("the first from the left", 4, "pier spots 5 deep 4 from 3 to |2!");
        faultAt("the first from the left", 4, "pier spots |1 deep 0 from 61 to 61");
    }

    private static void bounds(String ahead, String behind, int least, int most) {
        for (int whole = 0; whole <= 99; whole++) {
            if (whole >= least && whole <= most) {
                good("in bounds", ahead + whole + behind);
            } else {
                faultAt("4 out of bounds", 4, ahead + "|" + whole + behind);
            }
        }
        faultAt("three digits are no WHOLE", 1, ahead + "|100" + behind);
    }

    private static void p4Many() {
        StringBuilder baits = new StringBuilder(PIER);
        StringBuilder askers = new StringBuilder(BAIT);
        StringBuilder answers = new StringBuilder(BAIT);
        StringBuilder bites = new StringBuilder(BAIT + ";dark hunger 1");
        for (int i = 0; i < 6; i++) {
            String name = "pqrstu".substring(i, i + 1);
            baits.append(i < 4 ? ";bait " + name : "");
            askers.append(i < 5 ? ";asker " + name + " reach 0" : "");
            answers.append(answer(name, "plain", 0, 1, 1, "fly", 1));
            bites.append(";bite 0 fathoms 1 bait fly no");
        }
        good("up to 4 baits", baits.toString());
        good("up to 5 askers", askers.toString());
        good("up to 6 answers", answers.toString());
        good("up to 6 bites", bites.toString());
        for (String rest : new String[] {" z", "", " !", " p", " bait", "; !"}) {
            faultAt("5 MANY, at its first WORD, whatever comes", 5, baits + ";|bait" + rest);
            faultAt("5 MANY, at its first WORD, whatever comes", 5, askers + ";|asker" + rest);
            faultAt("5 MANY, at its first WORD, whatever comes", 5, answers + ";|answer" + rest);
            faultAt("5 MANY, at its first WORD, whatever comes", 5, bites + ";|bite" + rest);
        }
        faultAt("5 MANY is of its own sort", 1, baits + ";asker z reach 0;answer y plain |t");
    }

    private static void p4Lacks() {
        for (String line : new String[] {"bait fly", "asker ann reach 0", "answer a plain", "dark hunger 1", "bite 0", "bait", "bite"}) {
            faultAt("6 any LINE ahead of the pier, at its WORD", 6, "|" + line);
            faultAt("6 any LINE ahead of the pier, at its WORD", 6, "  |" + line + ";" + PIER);
        }
        faultAt("6 a bite ahead of the dark", 6, BAIT + ";|bite 0 fathoms 1 bait fly yes");
        faultAt("6 a bite ahead of the dark", 6, BAIT + ";|bite 0 fathoms 1 bait fly yes;dark hunger 1");
        faultAt("6 a bite ahead of the dark, whatever comes", 6, BAIT + ";|bite !");
        good("a bite behind the dark, not right behind", BAIT + ";dark hunger 1;bait worm;bite 0 fathoms 1 bait worm yes");
        faultAt("6 at the end: no bait", 6, PIER + "|");
        faultAt("6 at the end: no bait, blanks ahead of it", 6, PIER + "   |");
        faultAt("6 at the end: no bait", 6, PIER + ";asker ann reach 0;dark hunger 1|");
        faultAt("of one place the least number: no PIER ends there, nor has it a bait", 1, PIER + ";|");
        good("a bait at the end", PIER + ";asker ann reach 0;dark hunger 1;bait fly");
    }

    private static void p5() {
        HookPier x = new HookPier();
        edge("NONE else: no call yet", x.where(), -1);
        tell(x, "pier spots 9");
        edge("its place", x.where(), 11);
        x.fault();
        x.trouble();
        x.size(12);
        ledBy(x, 0);
        x.feed(0, 0, 0, 0, 0);
        edge("calls that aren't refused by numbers change nothing", x.where(), 11);
        x.pier(21);
        edge("the latest was refused by 2", x.where(), -1);
        x.pier(0);
        edge("its place: the end", x.where(), 0);
        x.best();
        edge("the latest was refused by 1", x.where(), -1);
        tell(x, BAIT + ";bait |");
        edge("its place", x.where(), BAIT.length() + 6);
        tell(x, BAIT);
        edge("the latest wasn't refused", x.where(), -1);
        tell(x, "?");
        x.close(0);
        edge("the latest wasn't refused", x.where(), -1);
        tell(x, "?");
        x.undo();
        edge("the latest was refused by 6", x.where(), -1);
        tell(x, repeated(" ", 899) + "?");
        edge("the last place of all", x.where(), 899);
        tell(x, repeated(" ", 900));
        edge("the end of all", x.where(), 900);
    }

    // ---- now

    private static void p6() {
        HookPier x = still(answer("a", "plain", 0, 1, 0, "worm", 1) + answer("b", "cold", 7, 9, 99, "fly", 99)
                + answer("c", "crab", 3, 4, 5, "fly", 0) + answer("d", "boot", 1, 2, 3, "worm", 4)
                + answer("e", "plain", 0, 1, 99, "fly", 12) + answer("f", "plain", 2, 2, 2, "fly", 2));
        long[][] told = {{0, 0, 1, 0, 1, 1}, {1, 7, 9, 99, 0, 99}, {2, 3, 4, 5, 0, 0}, {3, 1, 2, 3, 1, 4}, {0, 0, 1, 99, 0, 12},
            {0, 2, 2, 2, 0, 2}};
        for (int a = 0; a < 6; a++) {
            for (int what = 0; what <= 5; what++) {
                edge("as told: answer(" + a + ", " + what + ")", x.answer(a, what), told[a][what]);
            }
            edge("0 there", x.answer(a, 6), 0);
            for (int what = 7; what <= 9; what++) {
                taken(x, "-2, not landed", x.answer(a, what), -2);
            }
        }
        for (int bad : new int[] {LEAST, -1, 6, MOST}) {
            refused(x, "no such answer", x.answer(bad, 0), 1);
        }
        for (int bad : new int[] {LEAST, -1, 10, MOST}) {
            refused(x, "no such thing of an answer", x.answer(0, bad), 1);
        }
        x.let(4, 0, 1, 0);
        x.day();
        edge("1 landed", x.answer(4, 6), 1);
        edge("the day it was landed, 0", x.answer(4, 7), 0);
        edge("who landed it, the last one", x.answer(4, 8), 4);
        edge("worth NOW, 5 less", x.answer(4, 9), 7);
        x.day();
        edge("worth NOW, 10 less", x.answer(4, 9), 2);
        x.day();
        edge("worth NOW, 0 at least", x.answer(4, 9), 0);
        x.sell(4);
        edge("2 sold", x.answer(4, 6), 2);
        edge("the day it was landed, sold since", x.answer(4, 7), 0);
        edge("who landed it, sold since", x.answer(4, 8), 4);
        edge("-2 else", x.answer(4, 9), -2);
        HookPier none = pierOf(BAIT);
        refused(none, "there are no answers", none.answer(0, 0), 1);
    }

    private static void p7() {
        HookPier x = pierOf("pier spots 8 deep 9 from 60 to 60;bait fly;bait worm;asker ann reach 3;asker bob reach 3;asker cid reach 0"
                + answer("a", "plain", 7, 9, 99, "worm", 1) + answer("b", "plain", 7, 9, 99, "worm", 1)
                + answer("c", "crab", 0, 9, 0, "fly", 1));
        long[] in = {3, -2, -2, -2, 0, 0};
        for (int what = 0; what <= 5; what++) {
            taken(x, "none is out: asker(0, " + what + ")", x.asker(0, what), in[what]);
        }
        for (int bad : new int[] {LEAST, -1, 3, MOST}) {
            refused(x, "no such asker", x.asker(bad, 0), 1);
        }
        for (int bad : new int[] {LEAST, -1, 6, MOST}) {
            refused(x, "no such thing of an asker", x.asker(0, bad), 1);
        }
        x.let(0, 7, 9, 1);
        long[] out = {3, 7, 9, 1, 0, 0};
        for (int what = 0; what <= 5; what++) {
            edge("one is out: asker(0, " + what + ")", x.asker(0, what), out[what]);
        }
        edge("not out: it TANGLES with none", x.asker(1, 5), 0);
        x.let(1, 1, 1, 0);
        edge("as far apart as both reaches together", x.asker(0, 5), 1);
        edge("as far apart as both reaches together", x.asker(1, 5), 1);
        x.drawIn(1);
        edge("the other one is in", x.asker(0, 5), 0);
        x.let(1, 0, 1, 0);
        edge("one further apart", x.asker(0, 5), 0);
        x.day();
        edge("answers he landed, as bits", x.asker(0, 4), 1);
        x.let(0, 7, 9, 1);
        x.day();
        edge("answers he landed, as bits", x.asker(0, 4), 3);
        x.sell(0);
        edge("answers he landed, sold since", x.asker(0, 4), 3);
        edge("answers that others landed", x.asker(1, 4), 0);
        HookPier none = pierOf(BAIT);
        refused(none, "there are no askers", none.asker(0, 0), 1);
    }

    private static void p8() {
        HookPier x = pierOf("pier spots 2 deep 1 from 0 to 0;bait fly");
        edge("from 0", x.close(0), 1);
        edge("behind its end", x.close(1), 0);
        HookPier y = pierOf("pier spots 2 deep 1 from 59 to 60;bait fly");
        edge("ahead of it", y.close(58), 0);
        edge("both ends too", y.close(59), 1);
        edge("both ends too", y.close(60), 1);
        edge("behind it", y.close(61), 0);
        taken(y, "0", y.close(0), 0);
        taken(y, "999", y.close(999), 0);
        for (int bad : new int[] {LEAST, -1, 1000, MOST}) {
            refused(y, "0 .. 999", y.close(bad), 2);
        }
        HookPier none = new HookPier();
        for (int day : new int[] {LEAST, -1, 0, 999, 1000, MOST}) {
            refused(none, "no PIER", none.close(day), 1);
        }
    }

    // ---- questions: a spot, fathoms, a bait

    /** A call that asks of a spot, fathoms, a bait. */
    private interface Asking {
        long of(int spot, int fathoms, int bait);
    }

    /** Of a PIER with 8 spots, 9 fathoms, 2 baits. */
    private static void questions(HookPier x, Asking call) {
        for (int bad : new int[] {LEAST, -1, 8, MOST}) {
            refused(x, "no such spot", call.of(bad, 1, 0), 1);
            refused(x, "no such spot, nor fathoms", call.of(bad, 0, 0), 1);
        }
        for (int bad : new int[] {LEAST, -1, 2, MOST}) {
            refused(x, "no such bait", call.of(0, 1, bad), 1);
            refused(x, "no such bait, nor fathoms", call.of(0, 10, bad), 1);
        }
        for (int bad : new int[] {LEAST, -1, 0, 10, MOST}) {
            refused(x, "2 (fathoms)", call.of(0, bad, 0), 2);
        }
        for (int spot : new int[] {0, 7}) {
            for (int fathoms : new int[] {1, 9}) {
                for (int bait : new int[] {0, 1}) {
                    call.of(spot, fathoms, bait);
                    edge("the least and the most of each", x.trouble(), 0);
                }
            }
        }
    }

    private static void answersOf(HookPier x, Asking ofAnswer) {
        for (int bad : new int[] {LEAST, -1, 6, MOST}) {
            refused(x, "no such answer", ofAnswer.of(bad, 1, 0), 1);
            refused(x, "no such answer, nor fathoms", ofAnswer.of(bad, 0, 0), 1);
        }
        ofAnswer.of(0, 1, 0);
        edge("the first answer", x.trouble(), 0);
        ofAnswer.of(5, 1, 0);
        edge("the last answer", x.trouble(), 0);
    }

    /** Six answers at spot 0, depth 1, each with a WISH of 99 there for the first bait. */
    private static String six() {
        StringBuilder text = new StringBuilder();
        for (int i = 0; i < 6; i++) {
            text.append(answer("abcdef".substring(i, i + 1), "plain", 0, 1, 99, "worm", 99));
        }
        return text.toString();
    }

    private static void p9() {
        HookPier x = still(answer("a", "plain", 2, 3, 80, "fly", 1) + answer("b", "cold", 2, 3, 81, "fly", 1)
                + answer("c", "crab", 2, 3, 80, "fly", 1) + answer("d", "boot", 2, 3, 80, "fly", 1)
                + answer("e", "plain", 7, 9, 99, "worm", 1) + answer("f", "boot", 0, 1, 19, "worm", 1));
        edge("20 more if it likes the bait: just 100", x.wish(0, 2, 3, 0), 100);
        edge("100 at most", x.wish(1, 2, 3, 0), 100);
        edge("it doesn't like the bait", x.wish(0, 2, 3, 1), 80);
        edge("10 less for each spot, to the left", x.wish(0, 1, 3, 1), 70);
        edge("10 less for each spot, to the right", x.wish(0, 7, 3, 1), 30);
        edge("8 less for each fathom, upwards", x.wish(0, 2, 1, 1), 64);
        edge("8 less for each fathom, downwards", x.wish(0, 2, 9, 1), 32);
        edge("of more than 100 the rest is less first, the bound comes last", x.wish(1, 1, 3, 0), 91);
        edge("of a crab not less for fathoms", x.wish(2, 2, 9, 1), 80);
        edge("of a crab 10 less for each spot", x.wish(2, 0, 9, 0), 80);
        edge("of a boot 20 less, a bait it likes", x.wish(3, 2, 3, 0), 60);
        edge("of a boot 20 less, another bait", x.wish(3, 2, 3, 1), 60);
        edge("of a boot less for fathoms", x.wish(3, 2, 4, 1), 52);
        edge("0 at least", x.wish(4, 0, 1, 0), 0);
        edge("0 at least, of a boot at its place", x.wish(5, 0, 1, 1), 0);
        edge("80 less 40 and 40: just 0", x.wish(0, 6, 8, 1), 0);
        edge("80 less 50 and 24", x.wish(0, 7, 6, 1), 6);
        edge("80 less 50 and 32: 0 at least", x.wish(0, 7, 7, 1), 0);
        questions(x, (spot, fathoms, bait) -> x.wish(0, spot, fathoms, bait));
        answersOf(x, (a, fathoms, bait) -> x.wish(a, 0, fathoms, bait));
        x.let(0, 2, 3, 0);
        x.day();
        edge("it isn't there", x.answer(0, 6), 1);
        taken(x, "whether it is there or not", x.wish(0, 2, 3, 0), 100);
    }

    private static void p10() {
        HookPier x = still(six());
        edge("the upper WHOLE", x.takes(0, 0, 1, 0, false), 99);
        edge("the lower", x.takes(0, 0, 1, 0, true), 100);
        edge("the sixth: 1 of 100 five times, then 99 of 100", x.takes(5, 0, 1, 0, false), 99);
        edge("the sixth, the lower", x.takes(5, 0, 1, 0, true), 1000000000000L);
        edge("for sure: 1", x.takes(0, 0, 1, 1, false), 1);
        edge("for sure: by 1", x.takes(0, 0, 1, 1, true), 1);
        edge("behind a sure one: 0", x.takes(5, 0, 1, 1, false), 0);
        edge("behind a sure one: by 1", x.takes(5, 0, 1, 1, true), 1);
        questions(x, (spot, fathoms, bait) -> x.takes(0, spot, fathoms, bait, true));
        answersOf(x, (a, fathoms, bait) -> x.takes(a, 0, fathoms, bait, false));
        // 99 less 70 for spots and 24 for fathoms, 32 for fathoms: nothing
        edge("a WISH of 5: 1", x.takes(0, 7, 4, 0, false), 1);
        edge("a WISH of 5: by 20, in lowest terms", x.takes(0, 7, 4, 0, true), 20);
        edge("a WISH of 0: 0", x.takes(0, 7, 5, 0, false), 0);
        edge("a WISH of 0: by 1", x.takes(0, 7, 5, 0, true), 1);
        x.let(0, 0, 1, 1);
        x.day();
        edge("it isn't there: 0", x.takes(0, 0, 1, 0, false), 0);
        edge("it isn't there: by 1", x.takes(0, 0, 1, 0, true), 1);
        edge("the next one is the first there", x.takes(1, 0, 1, 0, true), 100);
    }

    private static void p11() {
        HookPier x = still(six());
        edge("1 of 100 six times", x.nothing(0, 1, 0, false), 1);
        edge("1 of 100 six times, the lower", x.nothing(0, 1, 0, true), 1000000000000L);
        edge("one for sure: 0", x.nothing(0, 1, 1, false), 0);
        edge("one for sure: by 1", x.nothing(0, 1, 1, true), 1);
        edge("none wishes it: 1", x.nothing(7, 9, 0, false), 1);
        edge("none wishes it: by 1", x.nothing(7, 9, 0, true), 1);
        questions(x, (spot, fathoms, bait) -> x.nothing(spot, fathoms, bait, true));
        HookPier crab = still(answer("a", "crab", 0, 1, 99, "fly", 1));
        edge("a crab is something", crab.nothing(0, 1, 0, false), 0);
        HookPier none = pierOf(BAIT);
        edge("no answers: 1", none.nothing(4, 4, 0, false), 1);
        edge("no answers: by 1", none.nothing(4, 4, 0, true), 1);
        x.let(0, 0, 1, 1);
        x.day();
        edge("one isn't there: 1 of 100 five times", x.nothing(0, 1, 0, true), 10000000000L);
    }

    private static void p12() {
        HookPier x = still(six());
        edge("99 but for the one of 10^12 that none takes it", x.mean(0, 1, 0, false), 98999999999901L);
        edge("likewise, the lower", x.mean(0, 1, 0, true), 1000000000000L);
        edge("for sure", x.mean(0, 1, 1, false), 99);
        edge("for sure, by 1", x.mean(0, 1, 1, true), 1);
        edge("none wishes it: 0", x.mean(7, 9, 0, false), 0);
        edge("none wishes it: by 1", x.mean(7, 9, 0, true), 1);
        questions(x, (spot, fathoms, bait) -> x.mean(spot, fathoms, bait, false));
        HookPier crab = still(answer("a", "crab", 0, 1, 50, "worm", 99) + answer("b", "boot", 0, 1, 60, "fly", 3));
        edge("but a crab: 3 by 1 of 2 by 2 of 5", crab.mean(0, 1, 0, false), 3);
        edge("but a crab, the lower", crab.mean(0, 1, 0, true), 5);
        HookPier none = pierOf(BAIT);
        edge("no answers: 0", none.mean(0, 1, 0, false), 0);
        edge("no answers: by 1", none.mean(0, 1, 0, true), 1);
        HookPier kept = still(answer("a", "plain", 0, 1, 30, "fly", 40));
        kept.day();
        kept.day();
        edge("as told, whatever the day", kept.mean(0, 1, 0, false), 20);
        kept.let(0, 0, 1, 0);
        kept.day();
        edge("landed: 0", kept.mean(0, 1, 0, false), 0);
        edge("landed: by 1", kept.mean(0, 1, 0, true), 1);
    }

    private static void p13() {
        HookPier x = still(answer("a", "plain", 0, 1, 50, "worm", 1) + answer("b", "plain", 0, 1, 80, "fly", 1)
                + answer("c", "crab", 7, 1, 40, "worm", 1) + answer("d", "plain", 7, 1, 70, "worm", 1)
                + answer("e", "boot", 7, 9, 20, "fly", 1) + answer("f", "boot", 7, 9, 20, "fly", 1));
        edge("50 of 100, then all the rest: the first such", x.likeliest(0, 1, 0), 0);
        edge("WISHES of 30, 40, 70: 30, 28 and 29.4 of 100", x.likeliest(7, 1, 0), 1);
        edge("a crab, too: WISHES of 10, 60, 90", x.likeliest(7, 1, 1), 2);
        edge("one alone wishes it", x.likeliest(5, 9, 0), 2);
        questions(x, (spot, fathoms, bait) -> x.likeliest(spot, fathoms, bait));
        HookPier none = pierOf(BAIT);
        taken(none, "-2 none does", none.likeliest(0, 1, 0), -2);
        HookPier still = still(answer("a", "plain", 0, 1, 50, "worm", 1) + answer("b", "boot", 0, 1, 20, "fly", 1));
        taken(still, "-2 none does", still.likeliest(7, 9, 0), -2);
        edge("one alone", still.likeliest(0, 1, 0), 0);
        still.let(0, 0, 1, 0);
        still.day();
        edge("it isn't there: -2 none does", still.likeliest(0, 1, 0), -2);
    }

    private static void p14and15() {
        promise = 14;
        HookPier x = still(answer("a", "plain", 7, 9, 80, "worm", 1) + answer("b", "plain", 1, 2, 99, "fly", 1)
                + answer("c", "boot", 0, 1, 20, "fly", 1) + answer("d", "boot", 0, 1, 21, "fly", 1)
                + answer("e", "cold", 0, 1, 0, "worm", 1) + answer("f", "crab", 0, 9, 0, "worm", 1));
        edge("the last question of all", x.surest(0), 791);
        edge("of like ones the first: 119 less 18 is 100 still", x.surest(1), 10);
        taken(x, "-2 none: a boot's 20 less 20", x.surest(2), -2);
        edge("a boot's 21 less 20: behind b nothing is left of the first bait", x.surest(3), 11);
        for (int bad : new int[] {LEAST, -1, 6, MOST}) {
            refused(x, "no such answer", x.surest(bad), 1);
        }
        promise = 15;
        edge("for sure: 1", x.surestOdds(0, false), 1);
        edge("for sure: by 1", x.surestOdds(0, true), 1);
        edge("0 by 1, if none", x.surestOdds(2, false), 0);
        edge("0 by 1, if none", x.surestOdds(2, true), 1);
        // b's WISH at 0, 1 is 99 less 10 and 8 for the second bait: 19 of 100 are left, then 1 of 100
        edge("behind one of 81 of 100", x.surestOdds(3, false), 19);
        edge("behind one of 81 of 100, the lower", x.surestOdds(3, true), 10000);
        for (int bad : new int[] {LEAST, -1, 6, MOST}) {
            refused(x, "no such answer", x.surestOdds(bad, true), 1);
        }
        promise = 14;
        // the crab's WISH is 100 at both spots, so nothing is left for the other one
        HookPier shut = pierOf("pier spots 2 deep 9 from 60 to 60;bait fly;asker ann reach 0" + answer("a", "crab", 0, 1, 99, "fly", 1)
                + answer("b", "plain", 0, 1, 99, "fly", 1));
        edge("-2 none: a crab is ahead of it everywhere", shut.surest(1), -2);
        edge("a crab has one, too", shut.surest(0), 10);
        promise = 15;
        edge("0 by 1: a crab is ahead of it everywhere", shut.surestOdds(1, false), 0);
        edge("0 by 1: a crab is ahead of it everywhere", shut.surestOdds(1, true), 1);
        HookPier least = pierOf("pier spots 2 deep 1 from 0 to 0;bait fly" + fiveOf("crab") + answer("f", "boot", 0, 1, 21, "fly", 1));
        promise = 14;
        edge("1 of 100 five times, then 1 of 100: that is likeliest", least.surest(5), 10);
        promise = 15;
        edge("the least likely of all", least.surestOdds(5, false), 1);
        edge("the least likely of all", least.surestOdds(5, true), 1000000000000L);
        HookPier gone = still(answer("a", "plain", 0, 1, 60, "fly", 1));
        gone.let(0, 0, 1, 0);
        gone.day();
        promise = 14;
        refused(gone, "5 it isn't there, landed", gone.surest(0), 5);
        promise = 15;
        refused(gone, "5 it isn't there, landed", gone.surestOdds(0, false), 5);
        gone.sell(0);
        promise = 14;
        refused(gone, "5 it isn't there, sold", gone.surest(0), 5);
        promise = 15;
        refused(gone, "5 it isn't there, sold", gone.surestOdds(0, true), 5);
    }

    /** Five answers of a KIND, each with a WISH of 99 at spot 0 and 89 at the next one. */
    private static String fiveOf(String kind) {
        StringBuilder text = new StringBuilder(";bait worm");
        for (int i = 0; i < 5; i++) {
            text.append(answer("abcde".substring(i, i + 1), kind, 0, 1, 99, "worm", 1));
        }
        return text.toString();
    }

    private static void p16() {
        HookPier least = pierOf("pier spots 2 deep 1 from 0 to 0;bait fly" + fiveOf("crab") + answer("f", "boot", 0, 1, 21, "fly", 1));
        taken(least, "1 by 10^12 is worth something", least.best(), 10);
        HookPier none = pierOf(BAIT);
        taken(none, "-2: no answers", none.best(), -2);
        HookPier x = still(answer("a", "plain", 0, 1, 99, "fly", 0) + answer("b", "crab", 7, 9, 99, "fly", 99));
        taken(x, "-2 none is worth anything: worth 0, and a crab", x.best(), -2);
        HookPier last = still(answer("a", "plain", 7, 9, 80, "worm", 1));
        edge("the last question of all", last.best(), 791);
        HookPier like = still(answer("a", "plain", 7, 9, 60, "worm", 10) + answer("b", "plain", 0, 1, 60, "fly", 10));
        edge("of like ones the first", like.best(), 10);
        HookPier more = still(answer("a", "plain", 7, 9, 60, "worm", 11) + answer("b", "plain", 0, 1, 60, "fly", 10));
        edge("most, by a little", more.best(), 791);
        last.let(0, 7, 9, 1);
        last.day();
        taken(last, "-2: the only one isn't there", last.best(), -2);
        HookPier empty = new HookPier();
        refused(empty, "no PIER", empty.best(), 1);
    }

    private static void p17() {
        HookPier none = pierOf(BAIT + ";bait worm");
        taken(none, "no answers: the first such", none.bestBait(), 0);
        HookPier x = pierOf(PIER + ";bait p;bait q;bait r;bait s;asker ann reach 0" + answer("a", "plain", 0, 1, 99, "s", 1)
                + answer("b", "plain", 0, 1, 0, "s", 1) + answer("c", "plain", 4, 4, 0, "q", 1));
        edge("most, the last bait", x.bestBait(), 3);
        x.let(0, 0, 1, 3);
        x.day();
        edge("it isn't there: now as many like q, the first such", x.bestBait(), 1);
        HookPier empty = new HookPier();
        refused(empty, "no PIER", empty.bestBait(), 1);
    }

    private static void p18() {
        HookPier x = still(answer("a", "plain", 0, 1, 7, "fly", 1) + answer("b", "boot", 0, 1, 99, "fly", 1)
                + answer("c", "crab", 0, 1, 0, "fly", 1) + answer("d", "cold", 0, 1, 0, "fly", 1)
                + answer("e", "plain", 7, 9, 0, "fly", 1) + answer("f", "plain", 7, 9, 0, "fly", 1));
        edge("30 and 20 are 50", x.hungerFor(0, 0, 1, 0), 30);
        edge("50 alone", x.hungerFor(0, 0, 1, 1), 50);
        edge("98 less 48", x.hungerFor(0, 4, 2, 1), 98);
        taken(x, "-2: 99 less 50 is 49", x.hungerFor(0, 5, 1, 1), -2);
        edge("98 and 20 less 68", x.hungerFor(0, 2, 7, 0), 98);
        taken(x, "-2: 99 and 20 less 70", x.hungerFor(0, 7, 1, 0), -2);
        edge("a boot: 98 less 20 and 28", x.hungerFor(1, 2, 2, 0), 98);
        taken(x, "-2, a boot: 99 less 20 and 30", x.hungerFor(1, 3, 1, 0), -2);
        edge("a crab, whatever the fathoms", x.hungerFor(2, 0, 9, 0), 30);
        questions(x, (spot, fathoms, bait) -> x.hungerFor(0, spot, fathoms, bait));
        answersOf(x, (a, fathoms, bait) -> x.hungerFor(a, 0, fathoms, bait));
        edge("in place of its own, which stays", x.answer(0, 3), 7);
    }

    // ---- seats

    private static void p19() {
        HookPier x = pierOf(WIDE + ";asker ann reach 3;asker bob reach 3;asker cid reach 0;asker dan reach 1");
        for (int k = 0; k < 4; k++) {
            taken(x, "none is out: all spots", x.freeSpots(k), 255);
        }
        for (int bad : new int[] {LEAST, -1, 4, MOST}) {
            refused(x, "no such asker", x.freeSpots(bad), 1);
        }
        x.let(0, 0, 1, 0);
        edge("his own isn't another one's", x.freeSpots(0), 255);
        edge("from 0: 6 spots off TANGLE, 7 don't", x.freeSpots(1), 128);
        edge("from 0: 3 spots off TANGLE, 4 don't", x.freeSpots(2), 0b11110000);
        edge("from 0: 4 spots off TANGLE, 5 don't", x.freeSpots(3), 0b11100000);
        x.let(2, 7, 1, 0);
        edge("of two that are out", x.freeSpots(3), 0b00100000);
        taken(x, "no spot is free", x.freeSpots(1), 0);
        x.drawIn(0);
        edge("that is out NOW", x.freeSpots(1), 0b00001111);
        HookPier none = pierOf(BAIT);
        refused(none, "there are no askers", none.freeSpots(0), 1);
    }

    private static void p20() {
        HookPier x = pierOf(WIDE + ";asker ann reach 3;asker bob reach 3;asker cid reach 0;asker dan reach 0");
        edge("no further apart than both reaches", x.tangles(0, 0, 1, 6), 1);
        edge("no further apart than both reaches, the other way", x.tangles(0, 6, 1, 0), 1);
        edge("further", x.tangles(0, 0, 1, 7), 0);
        edge("further, the other way", x.tangles(0, 7, 1, 0), 0);
        edge("3 and 0", x.tangles(0, 4, 2, 7), 1);
        edge("3 and 0", x.tangles(0, 3, 2, 7), 0);
        edge("reaches of 0, one spot", x.tangles(2, 5, 3, 5), 1);
        edge("reaches of 0, two spots", x.tangles(2, 5, 3, 6), 0);
        refused(x, "unlike askers", x.tangles(2, 0, 2, 7), 1);
        for (int bad : new int[] {LEAST, -1, 4, MOST}) {
            refused(x, "no such asker", x.tangles(bad, 0, 1, 7), 1);
            refused(x, "no such other one", x.tangles(0, 0, bad, 7), 1);
            refused(x, "no such askers, like ones", x.tangles(bad, 0, bad, 7), 1);
        }
        for (int bad : new int[] {LEAST, -1, 8, MOST}) {
            refused(x, "no such spot", x.tangles(0, bad, 1, 7), 1);
            refused(x, "no such spot of the other one", x.tangles(0, 0, 1, bad), 1);
        }
    }

    private static void p21to23() {
        HookPier empty = new HookPier();
        HookPier none = pierOf(BAIT);
        HookPier one = pierOf(WIDE + ";asker ann reach 3");
        HookPier five = pierOf(WIDE + FIVE);
        HookPier few = pierOf("pier spots 2 deep 1 from 0 to 0;bait fly;asker p reach 0;asker q reach 0;asker r reach 0");
        HookPier apart = pierOf(WIDE + ";asker p reach 3;asker q reach 3");
        HookPier tight = pierOf("pier spots 7 deep 1 from 0 to 0;bait fly;asker p reach 3;asker q reach 3");
        HookPier mixed = pierOf("pier spots 4 deep 1 from 0 to 0;bait fly;asker p reach 3;asker q reach 0;asker r reach 2;asker s reach 0");
        promise = 21;
        refused(empty, "no PIER", empty.seatings(), 1);
        refused(none, "6 no asker", none.seatings(), 6);
        taken(one, "one asker, each spot a row", one.seatings(), 8);
        taken(five, "five askers, all rows that can be", five.seatings(), 8 * 7 * 6 * 5 * 4);
        taken(few, "fewer spots than askers: no row", few.seatings(), 0);
        taken(apart, "just far enough: both ends, either way", apart.seatings(), 2);
        taken(tight, "just not far enough", tight.seatings(), 0);
        promise = 22;
        refused(empty, "no PIER", empty.seat(0), 1);
        refused(none, "no such asker", none.seat(0), 1);
        for (int k = 0; k < 5; k++) {
            taken(five, "the first row", five.seat(k), k);
        }
        for (int bad : new int[] {LEAST, -1, 5, MOST}) {
            refused(five, "no such asker", five.seat(bad), 1);
        }
        taken(few, "-2 there is none", few.seat(2), -2);
        edge("the first by askers' spots", apart.seat(0), 0);
        edge("the first by askers' spots", apart.seat(1), 7);
        refused(few, "no such asker, and no row", few.seat(3), 1);
        promise = 23;
        refused(empty, "no PIER", empty.mostSeated(), 1);
        taken(none, "no askers: none", none.mostSeated(), 0);
        taken(one, "one", one.mostSeated(), 1);
        taken(five, "all", five.mostSeated(), 31);
        taken(few, "the least bits of like ones", few.mostSeated(), 3);
        taken(tight, "one of two, the least bits", tight.mostSeated(), 1);
        // p fits beside nobody, and no three fit: q and r, q and s, r and s do
        taken(mixed, "two of four, the least bits", mixed.mostSeated(), 0b0110);
        HookPier alone = pierOf("pier spots 4 deep 1 from 0 to 0;bait fly;asker p reach 3;asker q reach 0;asker r reach 0");
        taken(alone, "the most, though p alone were less bits", alone.mostSeated(), 0b110);
    }

    // ---- the dark

    private static void p24to28() {
        HookPier empty = new HookPier();
        HookPier none = pierOf(BAIT);
        String wide = "pier spots 8 deep 9 from 0 to 0;bait a;bait b;bait c;bait d;dark hunger ";
        String one = "pier spots 2 deep 1 from 0 to 0;bait a;dark hunger ";
        HookPier all = pierOf(wide + "29");
        HookPier nowhere = pierOf(one + "29;bite 0 fathoms 1 bait a yes");
        HookPier just = pierOf(one + "30;bite 0 fathoms 1 bait a yes");
        HookPier last = pierOf(wide + "30;bite 7 fathoms 9 bait d yes");
        HookPier against = pierOf(wide + "99;bite 0 fathoms 1 bait a yes;bite 0 fathoms 1 bait a no");
        HookPier sure = pierOf(one + "99");
        promise = 24;
        refused(empty, "no PIER", empty.darks(), 1);
        refused(none, "nothing dark is told", none.darks(), 6);
        taken(all, "no bites: all places", all.darks(), 8 * 9 * 4);
        taken(nowhere, "a WISH of 49 doesn't bite: none", nowhere.darks(), 0);
        taken(just, "a WISH of 50 bites: one", just.darks(), 1);
        edge("a WISH of 49 is no for a bite that wasn't", pierOf(one + "29;bite 0 fathoms 1 bait a no").darks(), 2);
        edge("a WISH of 50 isn't", pierOf(one + "30;bite 0 fathoms 1 bait a no").darks(), 1);
        taken(against, "bites that can't both be so", against.darks(), 0);
        String spots = "pier spots 8 deep 1 from 0 to 0;bait a;bait b;dark hunger ";
        edge("10 less a spot: 80 less 30, 60 less 10", pierOf(spots + "60;bite 0 fathoms 1 bait a yes").darks(), 4 + 2);
        edge("10 less a spot: 79 less 20, 59 less 0", pierOf(spots + "59;bite 0 fathoms 1 bait a yes").darks(), 3 + 1);
        edge("another bait: 50 bites, 49 doesn't", pierOf(spots + "50;bite 0 fathoms 1 bait a yes").darks()
                - pierOf(spots + "49;bite 0 fathoms 1 bait a yes").darks(), 3 + 1 - 2);
        String deep = "pier spots 2 deep 9 from 0 to 0;bait a;dark hunger ";
        edge("8 less a fathom: 86 less 32, 76 less 24", pierOf(deep + "66;bite 0 fathoms 1 bait a yes").darks(), 5 + 4);
        edge("8 less a fathom: 90 less 40, 80 less 24", pierOf(deep + "70;bite 0 fathoms 1 bait a yes").darks(), 6 + 4);
        edge("8 less a fathom: 89 less 32, 79 less 24", pierOf(deep + "69;bite 0 fathoms 1 bait a yes").darks(), 5 + 4);
        promise = 25;
        refused(empty, "no PIER", empty.darkAt(0), 1);
        refused(none, "nothing dark is told", none.darkAt(0), 6);
        taken(all, "the first place", all.darkAt(0), 10);
        taken(all, "the last place", all.darkAt(287), 793);
        edge("by baits first", all.darkAt(3), 13);
        edge("then by depths", all.darkAt(4), 20);
        edge("then by spots", all.darkAt(36), 110);
        for (int bad : new int[] {LEAST, -1, 288, MOST}) {
            refused(all, "there is no such", all.darkAt(bad), 1);
        }
        refused(nowhere, "it may be nowhere", nowhere.darkAt(0), 1);
        edge("the one", last.darkAt(0), 793);
        refused(last, "there is but one", last.darkAt(1), 1);
        promise = 26;
        edge("as the first call", pierOf(wide + "30;bite 6 fathoms 9 bait d yes").darkSpots(), 64);
        refused(empty, "no PIER", empty.darkSpots(), 1);
        refused(none, "nothing dark is told", none.darkSpots(), 6);
        taken(all, "all spots", all.darkSpots(), 255);
        taken(nowhere, "none", nowhere.darkSpots(), 0);
        taken(last, "the last spot", last.darkSpots(), 128);
        promise = 27;
        refused(empty, "no PIER", empty.ask(), 1);
        refused(none, "nothing dark is told", none.ask(), 6);
        taken(nowhere, "-2 it may be nowhere", nowhere.ask(), -2);
        taken(against, "-2 it may be nowhere", against.ask(), -2);
        taken(all, "it would never bite, so all tell alike: the first", all.ask(), 10);
        taken(last, "one is left by all questions: the first", last.ask(), 10);
        taken(sure, "it would always bite: the first", sure.ask(), 10);
        promise = 28;
        refused(empty, "no PIER", empty.askLeaves(), 1);
        refused(none, "nothing dark is told", none.askLeaves(), 6);
        taken(nowhere, "-2 likewise", nowhere.askLeaves(), -2);
        taken(all, "it would never bite: all are left", all.askLeaves(), 288);
        taken(last, "one is left", last.askLeaves(), 1);
        taken(sure, "it would always bite: all are left", sure.askLeaves(), 2);
        askingBetter();
    }

    private static void askingBetter() {
        // two spots, hunger 30: it bites at its own spot alone
        HookPier x = pierOf("pier spots 2 deep 1 from 0 to 0;bait a;dark hunger 30");
        promise = 27;
        edge("both tell alike: the first", x.ask(), 10);
        promise = 28;
        edge("as the first call", pierOf("pier spots 4 deep 1 from 0 to 0;bait a;dark hunger 40").askLeaves(), 2);
        edge("one is left", x.askLeaves(), 1);
        // four spots, hunger 40: it bites from its own spot and one beside: the ends part 2 and 2, the others 3 and 1
        HookPier y = pierOf("pier spots 4 deep 1 from 0 to 0;bait a;dark hunger 40");
        promise = 27;
        edge("an end parts 2 and 2", y.ask(), 10);
        promise = 28;
        edge("an end parts 2 and 2", y.askLeaves(), 2);
        // five spots: the ends part 2 and 3, the next ones 3 and 2
        HookPier z = pierOf("pier spots 5 deep 1 from 0 to 0;bait a;dark hunger 40");
        promise = 27;
        edge("at most fewest, the first such", z.ask(), 10);
        promise = 28;
        edge("3 at most", z.askLeaves(), 3);
        // six spots: the ends part 2 and 4, the next ones 3 and 3
        HookPier w = pierOf("pier spots 6 deep 1 from 0 to 0;bait a;dark hunger 40");
        promise = 27;
        edge("the second spot parts 3 and 3", w.ask(), 110);
        promise = 28;
        edge("3 at most", w.askLeaves(), 3);
    }

    private static void p29() {
        String answers = answer("a", "plain", 0, 1, 99, "fly", 1) + answer("b", "crab", 0, 4, 99, "fly", 1)
                + answer("c", "boot", 0, 1, 99, "fly", 1) + answer("d", "cold", 4, 4, 0, "fly", 1);
        HookPier none = pierOf(BAIT + answers);
        refused(none, "6 nothing dark is told", none.judge(0), 6);
        for (int bad : new int[] {LEAST, -1, 4, MOST}) {
            refused(none, "no such answer, nor a dark", none.judge(bad), 1);
        }
        HookPier x = pierOf(BAIT + answers + ";dark hunger 30;bite 0 fathoms 1 bait fly yes;bite 4 fathoms 4 bait fly no");
        taken(x, "-2: a WISH of 50 bites, of the hunger told", x.judge(0), -2);
        taken(x, "-2: a crab, whatever the fathoms", x.judge(1), -2);
        taken(x, "the first bite: a boot has 20 less", x.judge(2), 0);
        taken(x, "the first bite", x.judge(3), 0);
        for (int bad : new int[] {LEAST, -1, 4, MOST}) {
            refused(x, "no such answer", x.judge(bad), 1);
        }
        HookPier y = pierOf(BAIT + answers + ";dark hunger 29;bite 4 fathoms 1 bait fly no;bite 0 fathoms 1 bait fly yes");
        taken(y, "a WISH of 49 doesn't bite: the second", y.judge(0), 1);
        String no = ";bite 4 fathoms 1 bait fly no";
        HookPier z = pierOf(BAIT + answers + ";dark hunger 30" + repeated(no, 5) + ";bite 0 fathoms 1 bait fly no");
        taken(z, "the last of six bites", z.judge(0), 5);
        HookPier quiet = pierOf(BAIT + answers + ";dark hunger 30");
        taken(quiet, "-2: no bites", quiet.judge(3), -2);
        HookPier empty = new HookPier();
        refused(empty, "no PIER", empty.judge(0), 1);
    }

    // ---- the market

    private static void p30() {
        HookPier x = pierOf(BAIT + answer("a", "plain", 0, 1, 1, "fly", 10) + answer("b", "cold", 0, 1, 1, "fly", 99)
                + answer("c", "crab", 0, 1, 1, "fly", 99) + answer("d", "boot", 0, 1, 1, "fly", 97)
                + answer("e", "boot", 0, 1, 1, "fly", 0) + answer("f", "plain", 0, 1, 1, "fly", 4));
        taken(x, "on the day itself", x.worth(0, 0, 0), 10);
        taken(x, "on the last day itself", x.worth(0, 999, 999), 10);
        edge("5 less for each day", x.worth(0, 998, 999), 5);
        taken(x, "just 0", x.worth(0, 5, 7), 0);
        taken(x, "0 at least", x.worth(0, 5, 8), 0);
        taken(x, "0 at least, from 4", x.worth(5, 5, 6), 0);
        taken(x, "0 at least, after all days", x.worth(0, 0, 999), 0);
        taken(x, "of a cold one as told for ever", x.worth(1, 0, 999), 99);
        edge("a crab's as a plain one's", x.worth(2, 0, 19), 4);
        edge("a crab's as a plain one's", x.worth(2, 0, 20), 0);
        edge("a boot's on the day itself", x.worth(3, 3, 3), 97);
        edge("a boot's is 1 more for each day", x.worth(3, 3, 4), 98);
        edge("a boot's: just 99", x.worth(3, 3, 5), 99);
        edge("a boot's: 99 at most", x.worth(3, 3, 6), 99);
        edge("a boot's: 99 at most, after all days", x.worth(3, 0, 999), 99);
        edge("a boot's from 0: 98", x.worth(4, 0, 98), 98);
        edge("a boot's from 0: just 99", x.worth(4, 0, 99), 99);
        edge("a boot's from 0: 99 at most", x.worth(4, 0, 100), 99);
        for (int bad : new int[] {LEAST, -1, 1000, MOST}) {
            refused(x, "0 .. 999, the day it is landed", x.worth(0, bad, 999), 2);
            refused(x, "0 .. 999, the other day", x.worth(0, 0, bad), 2);
            refused(x, "0 .. 999, both", x.worth(0, bad, bad), 2);
        }
        refused(x, "no less", x.worth(0, 1, 0), 2);
        refused(x, "no less", x.worth(1, 999, 998), 2);
        for (int bad : new int[] {LEAST, -1, 6, MOST}) {
            refused(x, "no such answer", x.worth(bad, 0, 0), 1);
            refused(x, "no such answer, nor day", x.worth(bad, 1, 0), 1);
        }
    }

    /** Six answers, each at a spot of its own, all landed on day 0 and 1; worth as told there, cold ones, but the last a plain one. */
    private static HookPier sixLanded(int... worth) {
        StringBuilder text = new StringBuilder();
        for (int i = 0; i < worth.length; i++) {
            text.append(answer("pqrstu".substring(i, i + 1), i == 5 ? "plain" : "cold", i, 1, 37, "worm", worth[i]));
        }
        HookPier x = still(text.toString());
        for (int a = 0; a < worth.length; a++) {
            x.let(a % 5, a, 1, 0);
            if (a == 4) {
                x.day();
            }
        }
        x.day();
        return x;
    }

    private static void p31and32() {
        HookPier empty = new HookPier();
        HookPier none = still(six());
        HookPier x = sixLanded(20, 30, 20, 0, 20, 25);
        edge("all six are landed", x.load(6) | 8, 63);
        promise = 31;
        refused(empty, "no PIER", empty.load(0), 1);
        refused(empty, "no PIER, nor such a number", empty.load(7), 1);
        taken(none, "none landed", none.load(6), 0);
        // worth now: 20, 30, 20, 0, 20, 20 (25 less 5)
        taken(x, "of 0 at most", x.load(0), 0);
        taken(x, "of 1 at most", x.load(1), 0b000010);
        taken(x, "of 2 at most: of like ones the least bits", x.load(2), 0b000011);
        taken(x, "of 3 at most: of like ones the least bits", x.load(3), 0b000111);
        taken(x, "of 4 at most", x.load(4), 0b010111);
        taken(x, "of 5 at most: all that are worth anything", x.load(5), 0b110111);
        taken(x, "of 6 at most: of like ones the fewest", x.load(6), 0b110111);
        for (int bad : new int[] {LEAST, -1, 7, MOST}) {
            refused(x, "0 .. 6", x.load(bad), 2);
        }
        promise = 32;
        refused(empty, "no PIER", empty.loadWorth(0), 1);
        refused(empty, "no PIER, nor such a number", empty.loadWorth(-1), 1);
        taken(none, "none landed", none.loadWorth(6), 0);
        long[] worth = {0, 30, 50, 70, 90, 110, 110};
        for (int many = 0; many <= 6; many++) {
            taken(x, "what it is worth NOW", x.loadWorth(many), worth[many]);
        }
        for (int bad : new int[] {LEAST, -1, 7, MOST}) {
            refused(x, "0 .. 6", x.loadWorth(bad), 2);
        }
        x.sell(1);
        x.sell(0);
        promise = 31;
        taken(x, "not sold", x.load(1), 0b000100);
        taken(x, "not sold", x.load(6), 0b110100);
        promise = 32;
        taken(x, "not sold", x.loadWorth(6), 60);
        HookPier all = sixLanded(99, 99, 99, 99, 99, 99);
        taken(all, "as much as can be", all.loadWorth(6), 5 * 99 + 94);
        promise = 31;
        taken(all, "all six", all.load(6), 63);
        edge("worth 1: the first alone", sixLanded(1, 0, 0, 0, 0, 5).load(6), 1);
        HookPier nothing = sixLanded(0, 0, 0, 0, 0, 5);
        taken(nothing, "worth nothing together: the fewest are none", nothing.load(6), 0);
    }

    private static void p33() {
        HookPier empty = new HookPier();
        refused(empty, "no PIER", empty.bestDay(), 1);
        HookPier none = still(six());
        taken(none, "none landed: the first", none.bestDay(), 0);
        edge("0 .. 20 more, a boot that goes on", boot(50).bestDay(), 20);
        edge("a boot that is 79 now: 99 in just 20", boot(78).bestDay(), 20);
        edge("a boot that is 80 now: 99 in 19", boot(79).bestDay(), 19);
        edge("a boot that is 98 now", boot(97).bestDay(), 1);
        edge("a boot that is 99 now: the first such", boot(98).bestDay(), 0);
        edge("a boot that is 99 since: the first such", boot(99).bestDay(), 0);
        edge("plain ones: now", sixLanded(0, 0, 0, 0, 0, 99).bestDay(), 0);
        edge("cold ones: now, the first such", sixLanded(9, 9, 9, 9, 9, 5).bestDay(), 0);
        HookPier both = still(answer("a", "boot", 0, 1, 60, "fly", 50) + answer("b", "plain", 7, 1, 40, "fly", 24));
        both.let(0, 0, 1, 0);
        both.let(1, 7, 1, 0);
        edge("both are landed", both.day(), 3);
        // 51 and 19; the plain one is worth nothing in 4 days (55), so it is 71 in 20: more than 70
        edge("together: later by one", both.bestDay(), 20);
        HookPier alike = still(answer("a", "boot", 0, 1, 60, "fly", 50) + answer("b", "plain", 7, 1, 40, "fly", 25));
        alike.let(0, 0, 1, 0);
        alike.let(1, 7, 1, 0);
        alike.day();
        edge("together: 71 now and 71 in 20 days, the first", alike.bestDay(), 0);
        alike.sell(1);
        edge("not sold: the boot alone", alike.bestDay(), 20);
        alike.sell(0);
        edge("all sold: the first", alike.bestDay(), 0);
    }

    /** A boot landed on day 0; it is day 1, so it is worth 1 more. */
    private static HookPier boot(int worth) {
        HookPier x = still(answer("a", "boot", 0, 1, 60, "fly", worth));
        x.let(0, 0, 1, 0);
        x.day();
        return x;
    }

    // ---- two hooks, two piers

    private static void p34() {
        HookPier x = still(answer("a", "plain", 0, 1, 40, "fly", 9) + answer("b", "plain", 7, 9, 0, "fly", 9));
        x.let(0, 0, 1, 0);
        x.let(1, 1, 1, 1);
        x.let(2, 1, 1, 0);
        x.let(3, 6, 1, 0);
        // WISHES of a: 60, 30, 50, 0; of b: none
        taken(x, "of 0", x.hooks(0, 0, 1, 0, false), 0);
        taken(x, "of 0", x.hooks(0, 0, 1, 0, true), 0);
        taken(x, "of 1: downwards 0 and 0, left to the first one", x.hooks(0, 0, 1, 1, false), 1);
        taken(x, "of 1: the other one none", x.hooks(0, 0, 1, 1, true), 0);
        taken(x, "of 1: left to the other one, his WISH is more", x.hooks(0, 1, 0, 1, false), 0);
        taken(x, "of 1: left to the other one", x.hooks(0, 1, 0, 1, true), 1);
        taken(x, "of 999: 666 and 333", x.hooks(0, 0, 1, 999, false), 666);
        taken(x, "of 999: 666 and 333", x.hooks(0, 0, 1, 999, true), 333);
        taken(x, "a WISH of 0 has none", x.hooks(0, 3, 2, 999, false), 0);
        taken(x, "a WISH of 0 has none, the other one all", x.hooks(0, 3, 2, 999, true), 999);
        taken(x, "a WISH of 0 of the other one", x.hooks(0, 2, 3, 999, false), 999);
        taken(x, "nobody has any if both are 0", x.hooks(1, 0, 2, 999, false), 0);
        taken(x, "nobody has any if both are 0", x.hooks(1, 0, 2, 999, true), 0);
        for (int bad : new int[] {LEAST, -1, 1000, MOST}) {
            refused(x, "2: 0 .. 999", x.hooks(0, 0, 1, bad, false), 2);
            refused(x, "2 ahead of 5", x.hooks(0, 0, 4, bad, false), 2);
        }
        for (int bad : new int[] {LEAST, -1, 2, MOST}) {
            refused(x, "no such answer", x.hooks(bad, 0, 1, 9, false), 1);
            refused(x, "1 ahead of 2", x.hooks(bad, 0, 1, 1000, false), 1);
        }
        for (int bad : new int[] {LEAST, -1, 5, MOST}) {
            refused(x, "no such asker", x.hooks(0, bad, 1, 9, true), 1);
            refused(x, "no such other one", x.hooks(0, 0, bad, 9, true), 1);
        }
        refused(x, "1 (unlike)", x.hooks(0, 1, 1, 9, true), 1);
        refused(x, "1 (unlike), his line isn't out", x.hooks(0, 4, 4, 9, true), 1);
        refused(x, "5: the other one's line isn't out", x.hooks(0, 0, 4, 9, true), 5);
        refused(x, "5: his line isn't out", x.hooks(0, 4, 0, 9, true), 5);
        x.let(4, 1, 1, 0);
        taken(x, "of 7, like WISHES: the first one has what is left", x.hooks(0, 2, 4, 7, false), 4);
        taken(x, "of 7, like WISHES: the other one", x.hooks(0, 2, 4, 7, true), 3);
        taken(x, "of 7, like WISHES, the other way", x.hooks(0, 4, 2, 7, false), 4);
    }

    private static void p35to37() {
        HookPier empty = new HookPier();
        HookPier x = pierOf(BAIT);
        promise = 35;
        edge("-100: no PIER", empty.lines(0, 0, 0, false), -100);
        edge("-100: 1 ahead of 2", empty.lines(100, 7, -1, false), -100);
        edge("no PIER", empty.trouble(), 1);
        taken(x, "no lines at all", x.lines(99, 0, 0, false), 0);
        taken(x, "no lines at all, the other one", x.lines(99, 0, 0, true), 0);
        taken(x, "no stock: each line costs 2", x.lines(0, 6, 6, false), -12);
        taken(x, "-1 isn't refused: 1 less 2", x.lines(1, 1, 0, false), -1);
        taken(x, "no lines of one", x.lines(99, 0, 6, false), 0);
        taken(x, "all for the other one", x.lines(99, 0, 6, true), 87);
        taken(x, "downwards: 49 less 12", x.lines(99, 6, 6, false), 37);
        taken(x, "downwards, likewise", x.lines(99, 6, 6, true), 37);
        taken(x, "downwards: 14 less 2", x.lines(99, 1, 6, false), 12);
        taken(x, "downwards: 84 less 12", x.lines(99, 1, 6, true), 72);
        for (int bad : new int[] {LEAST, -1, 100, MOST}) {
            linesRefused(x, "a stock of 0 .. 99", x.lines(bad, 0, 0, false));
        }
        for (int bad : new int[] {LEAST, -1, 7, MOST}) {
            linesRefused(x, "lines of 0 .. 6", x.lines(9, bad, 0, false));
            linesRefused(x, "the other one's lines of 0 .. 6", x.lines(9, 0, bad, false));
        }
        long[] rests = {1, 1, 3, 2, 3, 3, 1, 1, 2};
        long[] first = {0, 0, 0, 1, 1, 1, 11, 11, 11};
        for (int stock = 0; stock <= 8; stock++) {
            promise = 36;
            taken(x, "how many, over " + stock, x.rests(stock), rests[stock]);
            promise = 37;
            taken(x, "the first, over " + stock, x.rest(stock), first[stock]);
        }
        promise = 36;
        taken(x, "over the most", x.rests(99), 1);
        refused(empty, "no PIER", empty.rests(0), 1);
        refused(empty, "1 ahead of 2", empty.rests(100), 1);
        promise = 37;
        taken(x, "over the most: all lines of both", x.rest(99), 66);
        refused(empty, "no PIER", empty.rest(0), 1);
        refused(empty, "1 ahead of 2", empty.rest(-1), 1);
        for (int bad : new int[] {LEAST, -1, 100, MOST}) {
            promise = 36;
            refused(x, "a stock of 0 .. 99", x.rests(bad), 2);
            promise = 37;
            refused(x, "a stock of 0 .. 99", x.rest(bad), 2);
        }
    }

    private static void linesRefused(HookPier x, String words, int got) {
        edge(words, got, -100);
        edge(words + ", trouble()", x.trouble(), 2);
    }

    // ---- days by draws

    /** Days 1 and 2 are CLOSE. */
    private static final String SOON = "pier spots 8 deep 9 from 1 to 2;bait fly;bait worm;asker ann reach 0;asker bob reach 3;asker cid reach 0";

    /** Two plain ones with a WISH of 37 at spot 0, a crab with one of 37 at spot 7. */
    private static HookPier soon() {
        return pierOf(SOON + answer("a", "plain", 0, 1, 17, "fly", 9) + answer("b", "plain", 0, 1, 17, "fly", 9)
                + answer("c", "crab", 7, 1, 17, "fly", 9));
    }

    private static HookPier single(String answer) {
        HookPier x = pierOf(SOON + answer);
        x.let(0, 0, 1, 0);
        return x;
    }

    private static void p38to40() {
        HookPier x = soon();
        promise = 38;
        taken(x, "no line is out", x.landed(STILL, 60), 0);
        x.let(0, 0, 1, 0);
        x.let(1, 7, 1, 0);
        long[] landed = {0, 1, 1, 1, 2, 2};
        long[] crabs = {0, 1, 1, 1, 2, 3};
        long[] second = {0, 0, 0, 0, 4, 4};
        for (int n = 0; n <= 5; n++) {
            promise = 38;
            taken(x, "n DAYS, of which two are CLOSE: " + n, x.landed(STILL, n), landed[n]);
            promise = 39;
            taken(x, "in which of them: " + n, x.landedIn(1, STILL, n), second[n]);
            taken(x, "in which of them, the first one: " + n, x.landedIn(0, STILL, n), n == 0 ? 0 : 1);
            taken(x, "0 in none, a crab: " + n, x.landedIn(2, STILL, n), 0);
            promise = 40;
            taken(x, "how many times: " + n, x.crabs(STILL, n), crabs[n]);
        }
        promise = 38;
        taken(x, "60 of them", x.landed(STILL, 60), 2);
        taken(x, "the least SEED", x.landed(0, 1), 1);
        promise = 39;
        taken(x, "60 of them", x.landedIn(1, STILL, 60), 4);
        taken(x, "3 of them, behind 60", x.landedIn(1, STILL, 3), 0);
        taken(x, "0 of them, behind 60", x.landedIn(0, STILL, 0), 0);
        promise = 40;
        taken(x, "60 of them, let down anew each day but two", x.crabs(STILL, 60), 58);
        promise = 38;
        long[] sizes = {8, 9, 2, 3, 3, 0, 0, 0, 0, 2, 0, 0};
        for (int what = 0; what <= 11; what++) {
            edge("NOW stays: size(" + what + ")", x.size(what), sizes[what]);
        }
        edge("NOW stays: a line", x.asker(0, 1), 0);
        edge("NOW stays: an answer", x.answer(0, 6), 0);
        forecastsRefused(x);
        fromLater();
    }

    private static void forecastsRefused(HookPier x) {
        HookPier empty = new HookPier();
        for (int bad : new int[] {LEAST, -1, 65537, MOST}) {
            promise = 38;
            refused(x, "a SEED of 0 .. 65,536", x.landed(bad, 1), 2);
            refused(empty, "1 ahead of 2", empty.landed(bad, 1), 1);
            promise = 39;
            refused(x, "a SEED of 0 .. 65,536", x.landedIn(0, bad, 1), 2);
            promise = 40;
            refused(x, "a SEED of 0 .. 65,536", x.crabs(bad, 1), 2);
            refused(empty, "1 ahead of 2", empty.crabs(bad, 1), 1);
        }
        for (int bad : new int[] {LEAST, -1, 61, MOST}) {
            promise = 38;
            refused(x, "0 .. 60 DAYS", x.landed(0, bad), 2);
            promise = 39;
            refused(x, "0 .. 60 DAYS", x.landedIn(0, 0, bad), 2);
            promise = 40;
            refused(x, "0 .. 60 DAYS", x.crabs(0, bad), 2);
        }
        promise = 39;
        for (int bad : new int[] {LEAST, -1, 3, MOST}) {
            refused(x, "no such answer", x.landedIn(bad, 0, 1), 1);
            refused(x, "1 ahead of 2", x.landedIn(bad, -1, 61), 1);
        }
        refused(empty, "no PIER", empty.landedIn(0, 0, 1), 1);
        promise = 38;
        refused(empty, "no PIER", empty.landed(0, 0), 1);
        promise = 40;
        refused(empty, "no PIER", empty.crabs(0, 0), 1);
    }

    private static void fromLater() {
        HookPier x = soon();
        x.seed(STILL);
        x.let(0, 0, 1, 0);
        x.day();
        promise = 38;
        taken(x, "from NOW: the line is in", x.landed(STILL, 60), 0);
        x.day();
        x.day();
        x.let(2, 0, 1, 0);
        taken(x, "from NOW: the first one was landed, the next is", x.landed(STILL, 1), 1);
        promise = 39;
        taken(x, "0: it was landed ahead of them", x.landedIn(0, STILL, 60), 0);
        taken(x, "1: the first of them", x.landedIn(1, STILL, 60), 1);
        HookPier y = soon();
        y.let(0, 4, 9, 1);
        promise = 40;
        taken(y, "a line that nothing wishes", y.crabs(STILL, 60), 0);
        HookPier tangled = soon();
        tangled.let(1, 7, 1, 0);
        tangled.let(2, 4, 1, 0);
        taken(tangled, "it TANGLES with one out: none", tangled.crabs(STILL, 60), 0);
        tangled.drawIn(2);
        tangled.let(2, 3, 1, 0);
        taken(tangled, "one spot further", tangled.crabs(STILL, 1), 1);
        promise = 38;
        drawsOf("a DRAW of 36 isn't below 36", answer("a", "plain", 0, 1, 16, "fly", 9), STILL, 0);
        drawsOf("a DRAW of 36 is below 37", answer("a", "plain", 0, 1, 17, "fly", 9), STILL, 1);
        drawsOf("a DRAW of 0 isn't below 0", answer("a", "boot", 0, 1, 20, "fly", 9), AHEAD_OF_0, 0);
        drawsOf("a DRAW of 0 is below 1", answer("a", "boot", 0, 1, 21, "fly", 9), AHEAD_OF_0, 1);
        drawsOf("a DRAW of 99 isn't below 99", answer("a", "cold", 0, 1, 99, "worm", 9), AHEAD_OF_99, 0);
        drawsOf("a DRAW of 99 is below 100", answer("a", "cold", 0, 1, 80, "fly", 9), AHEAD_OF_99, 1);
        promise = 40;
        HookPier crab = single(answer("a", "crab", 0, 1, 17, "fly", 9));
        taken(crab, "a crab: a DRAW of 36 is below 37", crab.crabs(STILL, 1), 1);
        HookPier none = single(answer("a", "crab", 0, 1, 16, "fly", 9));
        taken(none, "a crab: a DRAW of 36 isn't below 36", none.crabs(STILL, 1), 0);
    }

    private static void drawsOf(String words, String answer, int seed, int want) {
        HookPier x = single(answer);
        promise = 38;
        taken(x, words, x.landed(seed, 1), want);
        promise = 39;
        taken(x, words, x.landedIn(0, seed, 1), want);
        promise = 44;
        x.seed(seed);
        taken(x, words, x.day(), want);
    }

    // ---- acts

    private static void p41() {
        HookPier x = soon();
        questions(x, (spot, fathoms, bait) -> {
            boolean down = x.let(0, spot, fathoms, bait);
            if (down) {
                x.drawIn(0);
            }
            return down ? 1 : -1;
        });
        for (int bad : new int[] {LEAST, -1, 3, MOST}) {
            refused(x, "no such asker", x.let(bad, 0, 1, 0), 1);
            refused(x, "1 ahead of 2", x.let(bad, 0, 0, 0), 1);
        }
        edge("the first asker", x.let(0, 0, 1, 0), true);
        edge("the last asker, where another one is", x.let(2, 0, 1, 0), true);
        refused(x, "5 his line is out", x.let(0, 0, 1, 0), 5);
        refused(x, "5 his line is out, another place", x.let(0, 7, 9, 1), 5);
        refused(x, "2 ahead of 5", x.let(0, 7, 10, 1), 2);
        refused(x, "1 ahead of 5", x.let(0, 8, 9, 1), 1);
        edge("what is out stays", x.asker(0, 1), 0);
        x.drawIn(0);
        edge("drawn in, it can be let down again", x.let(0, 7, 9, 1), true);
        HookPier y = soon();
        edge("the day ahead of the close season", y.let(0, 7, 9, 1), true);
        y.day();
        refused(y, "5 it is CLOSE, the first day", y.let(1, 7, 9, 1), 5);
        refused(y, "5 it is CLOSE, his line is out too", y.let(0, 7, 9, 1), 5);
        refused(y, "2 ahead of 5, CLOSE", y.let(1, 7, 0, 1), 2);
        refused(y, "1 ahead of 5, CLOSE", y.let(3, 7, 0, 1), 1);
        y.day();
        refused(y, "5 it is CLOSE, the last day", y.let(1, 7, 9, 1), 5);
        edge("refused: no ACT", y.size(9), 3);
        y.day();
        edge("the day behind the close season", y.let(1, 7, 9, 1), true);
        edge("one ACT more", y.size(9), 5);
    }

    private static void p42() {
        HookPier x = soon();
        for (int bad : new int[] {LEAST, -1, 3, MOST}) {
            refused(x, "no such asker", x.drawIn(bad), 1);
        }
        refused(x, "5 it isn't out", x.drawIn(2), 5);
        edge("refused: no ACT", x.size(9), 0);
        x.let(2, 5, 5, 1);
        edge("DRAW in", x.drawIn(2), true);
        edge("TROUBLE", x.trouble(), 0);
        edge("none is out", x.asker(2, 1), -2);
        refused(x, "5 it isn't out any more", x.drawIn(2), 5);
        x.let(0, 0, 1, 0);
        x.seed(STILL);
        x.day();
        refused(x, "5 what took it has the bait", x.drawIn(0), 5);
        x.undo();
        edge("out again", x.drawIn(0), true);
        HookPier y = soon();
        y.let(0, 7, 9, 1);
        y.day();
        edge("on a CLOSE day, too", y.drawIn(0), true);
    }

    private static void p43() {
        HookPier x = sixLanded(20, 30, 20, 0, 20, 7);
        for (int bad : new int[] {LEAST, -1, 6, MOST}) {
            refused(x, "no such answer", x.sell(bad), 1);
        }
        taken(x, "what it was worth", x.sell(5), 2);
        taken(x, "worth nothing", x.sell(3), 0);
        edge("2 sold", x.answer(3, 6), 2);
        refused(x, "5 is sold", x.sell(3), 5);
        refused(x, "5 is sold", x.sell(5), 5);
        taken(x, "the first one", x.sell(0), 20);
        edge("what was sold for", x.size(8), 22);
        HookPier y = soon();
        refused(y, "5 it isn't landed", y.sell(0), 5);
        edge("refused: no ACT", y.size(9), 0);
        HookPier none = new HookPier();
        refused(none, "no PIER", none.sell(0), 1);
    }

    private static void p44() {
        HookPier empty = new HookPier();
        refused(empty, "no PIER", empty.day(), 1);
        HookPier none = pierOf(BAIT);
        taken(none, "no askers, no answers", none.day(), 0);
        edge("it is the next day", none.size(6), 1);
        edge("no DRAWS", none.size(7), 0);
        HookPier x = soon();
        x.seed(STILL);
        x.let(0, 0, 1, 0);
        x.let(1, 7, 1, 0);
        taken(x, "answers landed in it, as bits", x.day(), 1);
        edge("a crab stays", x.answer(2, 6), 0);
        edge("a crab has the bait", x.asker(1, 1), -2);
        edge("the line is in", x.asker(0, 1), -2);
        edge("a crab lands none", x.asker(1, 4), 0);
        taken(x, "CLOSE: none", x.day(), 0);
        HookPier close = pierOf("pier spots 2 deep 1 from 1 to 60;bait fly;asker ann reach 0" + answer("a", "plain", 0, 1, 16, "fly", 9));
        close.seed(STILL);
        close.let(0, 0, 1, 0);
        taken(close, "a WISH of 36", close.day(), 0);
        close.seed(5);
        taken(close, "CLOSE: none", close.day(), 0);
        edge("CLOSE: no DRAWS", close.size(7), 5);
        edge("CLOSE: the line stays", close.asker(0, 1), 0);
        edge("CLOSE: it is the next day", close.size(6), 2);
        drawn();
        tangledDay();
    }

    /** How many DRAWS, told by SEED: 0, 74, 5624, 28632, .. */
    private static void drawn() {
        HookPier x = pierOf(SOON + answer("a", "boot", 7, 9, 0, "fly", 9) + answer("b", "plain", 0, 1, 99, "fly", 9)
                + answer("c", "plain", 0, 1, 99, "fly", 9));
        x.let(0, 0, 1, 0);
        taken(x, "the second takes it", x.day(), 2);
        edge("a DRAW of the first too, none of the third", x.size(7), 5624);
        HookPier y = pierOf(SOON);
        y.let(0, 0, 1, 0);
        y.seed(7);
        y.day();
        edge("no answers there: no DRAWS", y.size(7), 7);
        HookPier z = pierOf(SOON + answer("a", "plain", 0, 1, 0, "worm", 9));
        z.seed(65535);
        z.let(0, 0, 1, 0);
        z.day();
        edge("mod 65,537: 75 times 65,535 and 74", z.size(7), 65461);
        z.seed(AHEAD_OF_0);
        z.drawIn(0);
        z.undo();
        edge("undone: SEED as ahead of that", z.size(7), AHEAD_OF_0);
        HookPier w = single(answer("a", "plain", 7, 9, 0, "worm", 9));
        w.seed(AHEAD_OF_0);
        w.day();
        edge("mod 65,537: it may be 0", w.size(7), 0);
        HookPier still = single(answer("a", "plain", 7, 9, 0, "worm", 9));
        still.seed(STILL);
        still.day();
        edge("mod 65,537: 65,536 at most", still.size(7), 65536);
    }

    private static void tangledDay() {
        // the lines of all three are out; ann and bob TANGLE, cid with none
        String answers = answer("a", "plain", 0, 1, 60, "fly", 9) + answer("b", "plain", 7, 1, 99, "fly", 9);
        HookPier x = pierOf(SOON + answers);
        x.let(0, 3, 1, 0);
        x.let(1, 0, 1, 0);
        x.let(2, 7, 1, 0);
        x.seed(STILL);
        taken(x, "who TANGLE have none, as far apart as both reaches", x.day(), 0b10);
        edge("their lines stay", x.asker(0, 1) * 10 + x.asker(1, 1), 30);
        HookPier y = pierOf(SOON + answers);
        y.let(0, 4, 1, 0);
        y.let(1, 0, 1, 0);
        y.seed(STILL);
        // ann's is a's by a WISH of 40; then bob's is b's by one of 49
        taken(y, "one spot further", y.day(), 0b11);
        edge("askers by numbers", y.answer(0, 8), 0);
        edge("what is landed isn't there for the next", y.answer(1, 8), 1);
    }

    private static void p45() {
        HookPier empty = new HookPier();
        refused(empty, "no PIER", empty.seed(0), 1);
        refused(empty, "1 ahead of 2", empty.seed(-1), 1);
        HookPier x = soon();
        edge("the most", x.seed(65536), true);
        edge("the most", x.size(7), 65536);
        for (int bad : new int[] {LEAST, -1, 65537, MOST}) {
            refused(x, "0 .. 65,536", x.seed(bad), 2);
            edge("refused: it stays", x.size(7), 65536);
        }
        edge("the least", x.seed(0), true);
        edge("the least", x.size(7), 0);
        edge("no ACT", x.size(9), 0);
        refused(x, "no ACT", x.undo(), 6);
    }

    private static void p46() {
        HookPier empty = new HookPier();
        refused(empty, "6, no PIER", empty.undo(), 6);
        HookPier x = soon();
        refused(x, "6, no ACT yet", x.undo(), 6);
        x.seed(9);
        x.mark();
        x.wish(0, 0, 1, 0);
        x.landed(0, 60);
        x.let(3, 0, 1, 0);
        refused(x, "6, no ACTS are these", x.undo(), 6);
        for (int i = 0; i < 16; i++) {
            x.day();
            edge("16 are kept: " + (i + 1), x.size(9), i + 1);
        }
        x.day();
        edge("16 are kept, no more", x.size(9), 16);
        for (int i = 0; i < 16; i++) {
            edge("as ahead of the latest", x.undo(), true);
            edge("the day", x.size(6), 16 - i);
        }
        refused(x, "6, the 17th isn't kept", x.undo(), 6);
        edge("the day", x.size(6), 1);
        wrapping();
        undoneOnes();
    }

    /** Acts and undoings till what is kept has gone round several times. */
    private static void wrapping() {
        HookPier x = pierOf("pier spots 2 deep 1 from 0 to 0;bait fly");
        int day = 0;
        int kept = 0;
        for (int round = 1; round <= 9; round++) {
            for (int i = 0; i < 7; i++) {
                x.day();
                day++;
                kept = Math.min(16, kept + 1);
            }
            for (int i = 0; i < 3; i++) {
                x.undo();
                day--;
                kept--;
            }
            edge("kept, round by round", x.size(9), kept);
            edge("the day, round by round", x.size(6), day);
        }
        for (int i = kept; i > 0; i--) {
            edge("all that are kept", x.undo(), true);
            day--;
            edge("the day", x.size(6), day);
        }
        refused(x, "6, none is kept any more", x.undo(), 6);
    }

    private static void undoneOnes() {
        HookPier x = soon();
        x.seed(STILL);
        x.let(0, 0, 1, 0);
        x.seed(3);
        x.drawIn(0);
        x.undo();
        edge("DRAW undone: the line", x.asker(0, 1), 0);
        edge("SEED too", x.size(7), 3);
        x.seed(STILL);
        x.day();
        x.sell(0);
        edge("SELL", x.size(8), 4);
        x.undo();
        edge("SELL undone: landed", x.answer(0, 6), 1);
        edge("SELL undone: what was sold for", x.size(8), 0);
        x.seed(8);
        x.undo();
        edge("DAY undone: there", x.answer(0, 6), 0);
        edge("DAY undone: who landed it", x.answer(0, 8), -2);
        edge("DAY undone: the day", x.size(6), 0);
        edge("DAY undone: the line", x.asker(0, 1), 0);
        edge("DAY undone: SEED", x.size(7), STILL);
        x.seed(8);
        x.undo();
        edge("LET undone: the line", x.asker(0, 1), -2);
        edge("LET undone: SEED", x.size(7), STILL);
        refused(x, "6, none is left", x.undo(), 6);
    }

    private static void p47and48() {
        HookPier empty = new HookPier();
        promise = 47;
        refused(empty, "no PIER", empty.mark(), 1);
        promise = 48;
        refused(empty, "no such MARK, no PIER", empty.back(0), 1);
        HookPier x = soon();
        refused(x, "no MARK yet", x.back(0), 1);
        x.seed(STILL);
        promise = 47;
        taken(x, "its number", x.mark(), 0);
        edge("how many", x.size(10), 1);
        promise = 48;
        refused(x, "no second MARK yet", x.back(1), 1);
        x.let(0, 0, 1, 0);
        promise = 47;
        taken(x, "its number", x.mark(), 1);
        x.day();
        taken(x, "its number", x.mark(), 2);
        refused(x, "3 up to 3", x.mark(), 3);
        refused(x, "3 up to 3, again", x.mark(), 3);
        edge("up to 3", x.size(10), 3);
        edge("no ACT", x.size(9), 2);
        promise = 48;
        for (int bad : new int[] {LEAST, -1, 3, MOST}) {
            refused(x, "no such MARK", x.back(bad), 1);
        }
        edge("refused: what can be undone stays", x.size(9), 2);
        edge("to the first", x.back(0), true);
        edge("TROUBLE", x.trouble(), 0);
        edge("the day", x.size(6), 0);
        edge("the line", x.asker(0, 1), -2);
        edge("SEED", x.size(7), STILL);
        edge("nothing can be undone", x.size(9), 0);
        refused(x, "nothing can be undone", x.undo(), 6);
        edge("all MARKS stay", x.size(10), 3);
        promise = 47;
        refused(x, "3, as all MARKS stay", x.mark(), 3);
        promise = 48;
        edge("to the last, a later one", x.back(2), true);
        edge("the day", x.size(6), 1);
        edge("landed", x.answer(0, 6), 1);
        x.sell(0);
        edge("what can be undone is since then", x.size(9), 1);
        edge("undone", x.undo(), true);
        edge("as by the MARK", x.answer(0, 6), 1);
        refused(x, "no further", x.undo(), 6);
        x.sell(0);
        edge("to the same again", x.back(2), true);
        edge("not sold", x.size(8), 0);
        edge("to the one between", x.back(1), true);
        edge("there", x.answer(0, 6), 0);
        edge("the line", x.asker(0, 1), 0);
        x.drawIn(0);
        x.undo();
        edge("an ACT that is undone leaves MARKS", x.size(10), 3);
        landedAnew();
        tell(x, BAIT);
        edge("a new PIER has none", x.size(10), 0);
        refused(x, "a new PIER has none", x.back(0), 1);
    }

    /** Landed on one day by one asker, then by a MARK or by undoing on another day by another one. */
    private static void landedAnew() {
        HookPier x = still(answer("a", "plain", 0, 1, 17, "fly", 30));
        x.let(0, 0, 1, 0);
        x.day();
        x.mark();
        x.undo();
        x.drawIn(0);
        x.day();
        x.let(3, 0, 1, 0);
        x.day();
        edge("landed anew: the day", x.answer(0, 7), 1);
        edge("landed anew: who", x.answer(0, 8), 3);
        x.back(0);
        edge("as by the MARK: the day", x.answer(0, 7), 0);
        edge("as by the MARK: who", x.answer(0, 8), 0);
        edge("as by the MARK: worth NOW", x.answer(0, 9), 25);
    }

    // ---- what is told

    private static void p49() {
        HookPier empty = new HookPier();
        for (int i : new int[] {LEAST, -1, 0, 1, MOST}) {
            edge("no PIER: none such", ledBy(empty, i), -1);
        }
        edge("TROUBLE stays", empty.trouble(), 0);
        HookPier x = still(answer("a", "plain", 0, 1, 17, "fly", 9) + answer("b", "plain", 3, 1, 17, "fly", 9)
                + answer("c", "plain", 5, 1, 17, "fly", 9));
        edge("none yet", ledBy(x, 0), -1);
        x.let(0, 5, 1, 0);
        x.day();
        edge("the only one", ledBy(x, 0), 2);
        edge("none such", ledBy(x, 1), -1);
        x.let(0, 0, 1, 0);
        x.day();
        edge("by numbers, not by days", ledBy(x, 0), 0);
        edge("by numbers, not by days", ledBy(x, 1), 2);
        for (int i : new int[] {LEAST, -1, 2, 3, 6, MOST}) {
            edge("none such", ledBy(x, i), -1);
        }
        x.sell(0);
        edge("sold, too", ledBy(x, 0), 0);
        x.undo();
        x.undo();
        edge("undone", ledBy(x, 0), 2);
        edge("undone", ledBy(x, 1), -1);
        HookPier all = sixLanded(1, 2, 3, 4, 5, 6);
        for (int i = 0; i < 6; i++) {
            edge("all six", ledBy(all, i), i);
        }
        edge("all six, no more", ledBy(all, 6), -1);
    }

    private static void p50() {
        HookPier empty = new HookPier();
        for (int bad : new int[] {LEAST, -1, 12, MOST}) {
            edge("NONE for others, no PIER", empty.size(bad), -1);
        }
        empty.feed(0, 0, 0, 0, 0);
        edge("bytes of THE TAPE, no PIER", empty.size(11), 20);
        HookPier x = soon();
        x.best();
        for (int bad : new int[] {LEAST, -1, 12, MOST}) {
            edge("NONE for others", x.size(bad), -1);
            edge("no number is told, so TROUBLE stays", x.trouble(), 0);
        }
        HookPier y = pierOf(BAIT + ";dark hunger 1" + repeated(";bite 0 fathoms 1 bait fly no", 6));
        long[] sizes = {5, 4, 1, 0, 0, 6, 0, 0, 0, 0, 0, 0};
        for (int what = 0; what <= 11; what++) {
            edge("0 for what there isn't: size(" + what + ")", y.size(what), sizes[what]);
        }
    }

    private static void p51() {
        HookPier x = new HookPier();
        edge("0, no call yet", x.trouble(), 0);
        x.best();
        edge("1 there is none such", x.trouble(), 1);
        edge("told again", x.trouble(), 1);
        x.pier(1);
        edge("2 a number", x.trouble(), 2);
        tell(x, "?");
        edge("4 a FAULT", x.trouble(), 4);
        x.undo();
        edge("6 there is none", x.trouble(), 6);
        tell(x, SOON);
        edge("0 it wasn't", x.trouble(), 0);
        x.drawIn(0);
        edge("5 not so", x.trouble(), 5);
        x.mark();
        edge("0 it wasn't", x.trouble(), 0);
        x.mark();
        x.mark();
        x.mark();
        edge("3 no room", x.trouble(), 3);
        x.size(12);
        x.fault();
        x.where();
        ledBy(x, 0);
        x.feed(0, 0, 0, 0, 0);
        edge("of the latest call that may be refused", x.trouble(), 3);
        x.best();
        edge("-2 isn't refused", x.trouble(), 0);
        x.load(7);
        x.lines(1, 1, 0, false);
        edge("-1 of lines isn't refused", x.trouble(), 0);
    }

    // ---- every call with the least and the most that a number may be

    /** Of each call that may be refused: by which numbers, as the document tells them, and what it answers then. */
    private static final String[] MAY_BE_REFUSED = {"pier 2 4", "answer 1", "asker 1", "close 1 2", "wish 1 2", "takes 1 2",
        "nothing 1 2", "mean 1 2", "likeliest 1 2", "surest 1 5", "surestOdds 1 5", "best 1", "bestBait 1", "hungerFor 1 2",
        "freeSpots 1", "tangles 1", "seatings 1 6", "seat 1", "mostSeated 1", "darks 1 6", "darkAt 1 6", "darkSpots 1 6",
        "ask 1 6", "askLeaves 1 6", "judge 1 6", "worth 1 2", "load 1 2", "loadWorth 1 2", "bestDay 1", "hooks 1 2 5",
        "lines 1 2", "rests 1 2", "rest 1 2", "landed 1 2", "landedIn 1 2", "crabs 1 2", "let 1 2 5", "drawIn 1 5", "sell 1 5",
        "day 1 3", "seed 1 2", "undo 6", "mark 1 3", "back 1"};
    private static final int[] NUMBERS = {LEAST, LEAST + 1, -65537, -100, -2, -1, 0, 1, 2, 3, 4, 5, 6, 7, 8, 9, 10, 11, 12, 60, 61,
        99, 100, 900, 901, 999, 1000, 65536, 65537, MOST - 1, MOST};
    private static final int TRIES = 60;

    private static HookPier state(int which) {
        HookPier x = new HookPier();
        if (which == 0) {
            feed(x, BAIT);
            return x;
        }
        if (which == 1) {
            tell(x, BAIT);
            feed(x, "pier");
            return x;
        }
        tell(x, WIDE + FIVE + answer("a", "plain", 0, 1, 99, "fly", 30) + answer("b", "cold", 1, 1, 99, "fly", 30)
                + answer("c", "crab", 2, 1, 99, "fly", 30) + answer("d", "boot", 3, 1, 99, "fly", 30)
                + answer("e", "plain", 4, 1, 99, "fly", 30) + answer("f", "plain", 5, 1, 99, "fly", 30)
                + ";dark hunger 60;bite 0 fathoms 1 bait fly yes;bite 4 fathoms 1 bait worm no");
        feed(x, BAIT);
        for (int k = 0; k < 3; k++) {
            x.let(k, k, 1, 0);
        }
        x.mark();
        x.day();
        x.sell(0);
        x.let(0, 7, 9, 1);
        x.let(4, 6, 9, 1);
        if (which == 3) {
            x.mark();
            x.mark();
        }
        return x;
    }

    /** All that can be told of an object without a change of it, TROUBLE and the FAULT but for where(). */
    private static String told(HookPier x) {
        StringBuilder all = new StringBuilder();
        for (int what = 0; what <= 11; what++) {
            all.append(x.size(what)).append(' ');
        }
        for (int i = 0; i < 6; i++) {
            for (int what = 0; what <= 9; what++) {
                all.append(x.answer(i, what)).append(' ').append(what <= 5 ? x.asker(i, what) : 0).append(' ');
            }
        }
        return all.append(x.darks()).append(' ').append(x.close(60)).toString();
    }

    private static Object asked(HookPier x, Method call, Object[] with) {
        try {
            return call.invoke(x, with);
        } catch (InvocationTargetException e) {
            return e.getCause().getClass().getSimpleName();
        } catch (IllegalAccessException e) {
            return e;
        }
    }

    private static Object[] numbersFor(Method call, Random random) {
        Object[] with = new Object[call.getParameterCount()];
        boolean small = random.nextBoolean();
        for (int i = 0; i < with.length; i++) {
            int number = small ? random.nextInt(4) : NUMBERS[random.nextInt(NUMBERS.length)];
            with[i] = call.getParameterTypes()[i] == boolean.class ? (Object) random.nextBoolean() : (Object) number;
        }
        return with;
    }

    private static String refusalOf(String name) {
        for (String row : MAY_BE_REFUSED) {
            if (row.startsWith(name + " ")) {
                return row;
            }
        }
        return "";
    }

    private static void extremes() {
        Random random = new Random(51);
        Method[] calls = HookPier.class.getDeclaredMethods();
        Arrays.sort(calls, Comparator.comparing(Method::getName));
        for (Method call : calls) {
            for (int i = 0; i < TRIES && Modifier.isPublic(call.getModifiers()); i++) {
                extreme(call, state(i % 4), numbersFor(call, random));
            }
        }
    }

    private static void extreme(Method call, HookPier x, Object[] with) {
        String name = call.getName();
        String words = name + Arrays.toString(with);
        String row = refusalOf(name);
        promise = promiseOf(name);
        String before = told(x);
        x.best();
        int ahead = x.trouble();
        Object got = asked(x, call, with);
        int why = x.trouble();
        if (row.isEmpty()) {
            edge(words + ", not of those that may be refused", why, ahead);
            boolean thrown = got instanceof String;
            edge(words + ", throws but led", thrown && !name.equals("led") || thrown && !got.equals("NoSuchElementException"), false);
            edge(words + ", changes none but feed", !name.equals("feed") && !told(x).equals(before), false);
            return;
        }
        long answered = got instanceof Boolean b ? b ? 0 : -1 : got instanceof Number n ? n.longValue() : -99;
        edge(words + ", never throws", answered == -99, false);
        edge(words + ", is refused or isn't", answered == (name.equals("lines") ? -100 : -1), why != 0);
        edge(words + ", is refused by a number that is told, not by " + why, why == 0 || row.contains(" " + why), true);
        boolean isAct = "pier let drawIn sell day seed undo mark back ".contains(name + " ");
        if (!isAct || why != 0 && why != 4) {
            edge(words + ", changes nothing", told(x).equals(before), true);
        }
    }

    private static int promiseOf(String name) {
        String[] names = ("feed pier fault where answer asker close wish takes nothing mean likeliest surest surestOdds best bestBait"
                + " hungerFor freeSpots tangles seatings seat mostSeated darks darkAt darkSpots ask askLeaves judge worth load loadWorth"
                + " bestDay hooks lines rests rest landed landedIn crabs let drawIn sell day seed undo mark back led size trouble").split(" ");
        return Arrays.asList(names).indexOf(name) + 2;
    }

    private static void run(int number, Runnable test) {
        promise = number;
        test.run();
    }

    private static void runAll() {
        run(1, HookPierEdges::p1);
        run(2, HookPierEdges::p2);
        run(3, HookPierEdges::p3);
        run(3, HookPierEdges::p3Stays);
        run(3, HookPierEdges::p3Anew);
        run(3, HookPierEdges::p3Turns);
        run(4, HookPierEdges::p4);
        run(4, HookPierEdges::p4Tokens);
        run(4, HookPierEdges::p4Ends);
        run(4, HookPierEdges::p4Names);
        run(4, HookPierEdges::p4Wholes);
        run(4, HookPierEdges::p4Many);
        run(4, HookPierEdges::p4Lacks);
        run(5, HookPierEdges::p5);
        run(6, HookPierEdges::p6);
        run(7, HookPierEdges::p7);
        run(8, HookPierEdges::p8);
        run(9, HookPierEdges::p9);
        run(10, HookPierEdges::p10);
        run(11, HookPierEdges::p11);
        run(12, HookPierEdges::p12);
        run(13, HookPierEdges::p13);
        run(14, HookPierEdges::p14and15);
        run(16, HookPierEdges::p16);
        run(17, HookPierEdges::p17);
        run(18, HookPierEdges::p18);
        run(19, HookPierEdges::p19);
        run(20, HookPierEdges::p20);
        run(21, HookPierEdges::p21to23);
        run(24, HookPierEdges::p24to28);
        run(29, HookPierEdges::p29);
        run(30, HookPierEdges::p30);
        run(31, HookPierEdges::p31and32);
        run(33, HookPierEdges::p33);
        run(34, HookPierEdges::p34);
        run(35, HookPierEdges::p35to37);
        run(38, HookPierEdges::p38to40);
        run(41, HookPierEdges::p41);
        run(42, HookPierEdges::p42);
        run(43, HookPierEdges::p43);
        run(44, HookPierEdges::p44);
        run(45, HookPierEdges::p45);
        run(46, HookPierEdges::p46);
        run(47, HookPierEdges::p47and48);
        run(49, HookPierEdges::p49);
        run(50, HookPierEdges::p50);
        run(51, HookPierEdges::p51);
        extremes();
    }

    public static void main(String[] args) {
        runAll();
        int[] asked = EDGES.clone();
        for (promise = 1; promise <= 51; promise++) {
            edge("has edges that are tested", asked[promise] > 0, true);
            System.out.println("promise " + promise + ": " + asked[promise] + " edges, " + WRONG[promise] + " not as due");
        }
        System.out.println(wrong == 0 ? "all " + edges + " edges are as due" : wrong + " edges are not as due");
        if (wrong != 0) {
            System.exit(1);
        }
    }
}
