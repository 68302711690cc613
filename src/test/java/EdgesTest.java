import java.math.BigInteger;
import java.nio.file.Files;
import java.nio.file.Path;
import java.util.ArrayList;
import java.util.List;
import java.util.Set;
import java.util.TreeSet;

/**
 * Each sentence of the document that names a boundary, by its own words, with calls on both sides
 * of it. RefusalsTest has the calls that are refused.
 */
public final class EdgesTest {
    private static final int TERMS = 0;
    private static final int NULL = -11, INDEX = -12, CAST = -13, STORE = -14, SIZE = -15;
    private static final int LEAST = Integer.MIN_VALUE, GREATEST = Integer.MAX_VALUE;
    private static final long LONG_BAD = Long.MIN_VALUE + 2, LONG_NOT = Long.MIN_VALUE + 3;
    private static final String EIGHT = "p0d1A;p0d1A;p0d1A;p0d1A;p0d1A;p0d1A;p0d1A;p0d1A";
    private static final String DEEDS_80 =
        "p0r5ABCDE;r0d3BCDEF;t1d4ACDEF;s2r9AGHBC;p0d2DEFGH;r3r7ABCDH;t5d1EFGHA;s4d6ABCDEF";
    private static final String RULES_40 = "p4wh;r4wh;t4wh;s4wh;p2wh;r1h;t3w;s1w;r2w";

    private static final Set<Integer> quoted = new TreeSet<>();
    private static String document;
    private static String sentence = "";
    private static int wrong;

    private static void fail(String what) {
        wrong++;
        System.out.println("\"" + sentence + "\": " + what);
    }

    /** Says which words the next calls hold the class to; they must stand in the document. */
    private static void says(int promise, String words) {
        sentence = words;
        quoted.add(promise);
        String head = promise == TERMS ? "## What it is" : "## Promise " + promise + ":";
        int start = document.indexOf(head);
        int end = document.indexOf(promise == TERMS ? "## Promise 1:" : " ## ", start + 1);
        if (start < 0 || end < 0 || !document.substring(start, end).contains(words)) {
            fail("these words are not under " + head);
        }
    }

    private static void due(String call, long got, long want) {
        if (got != want) {
            fail(call + " answered " + got + ", due is " + want);
        }
    }

    private static SecondChances fair(String deeds, String rules) {
        SecondChances x = new SecondChances();
        typeAll(x, 0, deeds);
        typeAll(x, 1, rules);
        return x;
    }

    private static void typeAll(SecondChances x, int text, String signs) {
        for (int i = 0; i < signs.length(); i++) {
            x.type(text, signs.charAt(i));
        }
    }

    private static SecondChances fill(SecondChances x, int s, int form, int... items) {
        x.sheet(s, form, items.length);
        for (int i = 0; i < items.length; i++) {
            x.put(s, form, i, items[i]);
        }
        return x;
    }

    private static String items(SecondChances x, int s, int form, int n) {
        StringBuilder b = new StringBuilder();
        for (int i = 0; i < n; i++) {
            b.append(i == 0 ? "" : " ").append(x.get(s, form, i));
        }
        return b.toString();
    }

    private static void same(String what, String got, String want) {
        if (!got.equals(want)) {
            fail(what + ": " + got + ", due is " + want);
        }
    }

    private static String row(SecondChances x) {
        StringBuilder b = new StringBuilder();
        for (int d = 0; d < x.count(0); d++) {
            b.append(d == 0 ? "" : " ").append(x.when(d));
        }
        return b.toString();
    }

    private static String sky(SecondChances x) {
        StringBuilder b = new StringBuilder();
        for (int h = 0; h < 8; h++) {
            int was = x.weather(h, 0);
            x.weather(h, was);
            b.append(was);
        }
        return b.toString();
    }

    public static void main(String[] args) throws Exception {
        document = Files.readString(Path.of("../shared/DOC.md")).replaceAll("\\s+", " ");
        newObjects();
        typing();
        wordsOfTexts();
        wiping();
        faultsByEveryByte();
        faultsAtEnds();
        textsWithFaults();
        deeds();
        rules();
        people();
        weatherAndSettings();
        wordsOfTheNight();
        reading();
        canAtEdges();
        comesAtEdges();
        costsAtEdges();
        plansApart();
        mostByPurse();
        mostOfLikeOnes();
        whenThereIsNone();
        planSheets();
        askedAndCrowd();
        likeness();
        oddsByEnough();
        oddsByMemory();
        sightings();
        hats();
        pairs();
        forgetting();
        spared();
        best();
        regrets();
        wordsOfSheets();
        wordsOfRefusals();
        sheets();
        losing();
        putting();
        getting();
        copying();
        copyingInOne();
        writing();
        counting();
        digests();
        lastCalls();
        for (int promise = 0; promise <= 37; promise++) {
            sentence = "## Promise " + promise;
            if (!quoted.contains(promise)) {
                fail("nothing of it is tested");
            }
        }
        System.out.println(wrong == 0 ? "all edges hold" : wrong + " answers are not as due");
        if (wrong != 0) {
            System.exit(1);
        }
    }

    // ---- deeds, rules

    private static void newObjects() {
        says(1, "Empty texts, no SIGHTINGS, no pairs; all SHEETS are LOST.");
        SecondChances used = fair(DEEDS_80, RULES_40);
        used.seen(0, 0, 0);
        used.seen(0, 5, 0);
        used.after(0, 1);
        used.weather(0, 1);
        used.person(0, 2, 50);
        fill(used, 0, 2, 1, 2, 3);
        used.lose(3);
        SecondChances x = new SecondChances();
        for (int what = 0; what <= 8; what++) {
            due("count(" + what + ") beside an object in use", x.count(what), 0);
        }
        due("wipe(0)", x.wipe(0), 0);
        due("wipe(1)", x.wipe(1), 0);
        due("forget(0)", x.forget(0), 0);
        due("forget(1)", x.forget(1), 0);
        due("isFalse(0, 1)", x.isFalse(0, 1), -2);
        for (int s = 0; s < 4; s++) {
            due("lose(" + s + ")", x.lose(s), NULL);
        }
        x = new SecondChances();
        due("most(0)", x.most(0), 0);
        due("most(1)", x.most(1), 0);
        due("hats(0)", x.hats(0), 0);
        due("hats(1)", x.hats(1), 0);
        for (int kind = 0; kind < 4; kind++) {
            for (int what = 0; what < 3; what++) {
                due("rule(" + kind + ", " + what + ")", x.rule(kind, what), 0);
            }
        }
    }

    private static void typing() {
        says(2, "A byte (0 to 255) comes behind a text: how many.");
        for (int text = 0; text < 2; text++) {
            SecondChances x = new SecondChances();
            due("type(" + text + ", 0)", x.type(text, 0), 1);
            due("type(" + text + ", 255)", x.type(text, 255), 2);
            due("type(" + text + ", 256)", x.type(text, 256), -2);
            due("type(" + text + ", -1)", x.type(text, -1), -2);
            due("type(" + text + ", 65) behind what was refused", x.type(text, 65), 3);
        }
        says(2, "BAD; FULL.");
        SecondChances x = fair(DEEDS_80, RULES_40);
        due("bytes of deeds", x.count(1), 80);
        due("bytes of rules", x.count(2), 40);
        due("an 81st byte that would fit", x.type(0, 'G'), -4);
        due("an 81st byte that would not", x.type(0, 'x'), -4);
        due("a 41st byte that would fit", x.type(1, 'h'), -4);
        due("a 41st byte that would not", x.type(1, 'x'), -4);
        due("a 41st byte that is none", x.type(1, 256), -2);
        due("eight deeds as they were", x.count(0), 8);
        due("the last one as it was", x.deed(7, 4), 63);
        due("no fault of deeds", x.fault(0), -1);
        due("no fault of rules", x.fault(1), -1);
        due("no h at the last rule", x.rule(1, 2), 0);

        says(TERMS, "DEEDS (text 0) are a text of up to 80 bytes");
        x = fair(DEEDS_80.substring(0, 79), "");
        due("79 bytes", x.count(1), 79);
        due("the 80th", x.type(0, 'F'), 80);
        due("the 81st", x.type(0, 'G'), -4);
        says(TERMS, "RULES (text 1) are a text of up to 40 bytes: parts with ; between them");
        x = fair("", RULES_40.substring(0, 39));
        due("39 bytes", x.count(2), 39);
        due("the 40th", x.type(1, 'w'), 40);
        due("the 41st", x.type(1, 'h'), -4);
        due("nine parts", x.count(3), 9);
    }

    private static void wordsOfTexts() {
        says(TERMS, "a figure (0 to 5: PLACE)");
        due("place 0", fair("p0d1A", "").deed(0, 1), 0);
        due("place 5", fair("p5d1A", "").deed(0, 1), 5);
        due("place 6", fair("p6d1A", "").fault(0), 1);
        due("the sign ahead of 0", fair("p/d1A", "").fault(0), 1);
        says(TERMS, "r or d (it rained, or was dry: WEATHER 1, 0)");
        due("r", fair("p0r1A", "").deed(0, 2), 1);
        due("d", fair("p0d1A", "").deed(0, 2), 0);
        due("neither", fair("p01A", "").fault(0), 2);
        due("both", fair("p0rd1A", "").fault(0), 3);
        says(TERMS, "a figure (1 to 9: WORTH)");
        due("worth 1", fair("p0d1A", "").deed(0, 3), 1);
        due("worth 9", fair("p0d9A", "").deed(0, 3), 9);
        due("worth 0", fair("p0d0A", "").fault(0), 3);
        due("worth 10", fair("p0d10A", "").fault(0), 4);
        due("the sign behind 9", fair("p0d:A", "").fault(0), 3);
        says(TERMS, "then the letters of PEOPLE who were there (A to H: 0 to 7, at least one, none twice).");
        due("A", fair("p0d1A", "").deed(0, 4), 1);
        due("H", fair("p0d1H", "").deed(0, 4), 128);
        due("the sign ahead of A", fair("p0d1@", "").fault(0), 4);
        due("I", fair("p0d1I", "").fault(0), 4);
        due("nobody", fair("p0d1", "").fault(0), 4);
        due("nobody, then a deed", fair("p0d1;p0d1A", "").fault(0), 4);
        due("one twice at once", fair("p0d1AA", "").fault(0), 5);
        due("one twice at last", fair("p0d1ABCDEFGHA", "").fault(0), 12);
        due("one at two deeds", fair("p0d1A;p0d1A", "").fault(0), -1);
        says(TERMS, "a figure (0 to 4: how many of those who were there must be there), perhaps w (with like weather), perhaps h (in the same place)");
        due("0", fair("", "p0").rule(0, 0), 0);
        due("4", fair("", "p4").rule(0, 0), 4);
        due("5", fair("", "p5").fault(1), 1);
        due("the sign ahead of 0", fair("", "p/").fault(1), 1);
        due("w", fair("", "p0w").rule(0, 1) * 10 + fair("", "p0w").rule(0, 2), 10);
        due("h", fair("", "p0h").rule(0, 1) * 10 + fair("", "p0h").rule(0, 2), 1);
        due("w, h", fair("", "p0wh").rule(0, 1) * 10 + fair("", "p0wh").rule(0, 2), 11);
        due("h, w", fair("", "p0hw").fault(1), 3);
        due("w twice", fair("", "p0ww").fault(1), 3);
        due("h twice", fair("", "p0hh").fault(1), 3);
    }

    private static void wiping() {
        says(3, "A text is empty: how many bytes it had. BAD.");
        SecondChances x = fair(DEEDS_80, RULES_40);
        due("wipe(-1)", x.wipe(-1), -2);
        due("wipe(2)", x.wipe(2), -2);
        due("wipe(0), full", x.wipe(0), 80);
        due("wipe(0), empty", x.wipe(0), 0);
        due("deeds", x.count(0), 0);
        due("rules stay", x.count(2), 40);
        due("type(0, 112)", x.type(0, 'p'), 1);
        due("wipe(1), full", x.wipe(1), 40);
        due("wipe(1), empty", x.wipe(1), 0);
        due("deeds stay", x.count(1), 1);
        due("type(1, 112)", x.type(1, 'p'), 1);
        x = fair(EIGHT + ";p", "p1hh");
        due("wipe(0), with a fault", x.wipe(0), 49);
        due("wipe(1), with a fault", x.wipe(1), 4);
        due("fault(0)", x.fault(0), -1);
        due("fault(1)", x.fault(1), -1);
        typeAll(x, 0, EIGHT);
        typeAll(x, 1, "p1h");
        due("eight deeds anew", x.count(0), 8);
        due("a rule anew", x.rule(0, 2), 1);
        x = fair("p0d1A;p0d1A", "p1;r1;t1");
        x.wipe(0);
        x.wipe(1);
        due("no deeds", x.count(0), 0);
        due("no worth", x.count(6), 0);
        due("no parts", x.count(3), 0);
        typeAll(x, 0, "p0d1A");
        typeAll(x, 1, "p1");
        due("one deed", x.count(0), 1);
        due("one part", x.count(3), 1);
    }

    /** Behind each beginning, every byte that there is. */
    private static void faultsByEveryByte() {
        says(TERMS, "The FAULT of a text is the place of the first byte with which it cannot go on");
        String[][] deeds = {{"", "prts"}, {"p", "012345"}, {"p0", "rd"}, {"p0r", "123456789"}, {"p0r1", "ABCDEFGH"},
            {"p0r1A", ";BCDEFGH"}, {"p0r1H", ";ABCDEFG"}, {"p0r1BDF", ";ACEGH"}, {"p0r1HGFEDCBA", ";"}, {"p0r1A;", "prts"},
            {"p0r1A;s", "012345"}, {"p0r1A;s5d9", "ABCDEFGH"}, {"p0r1A;s5d9A", ";BCDEFGH"}, {EIGHT, ";BCDEFGH"}, {EIGHT + ";", ""}};
        String[][] rules = {{"", "prts"}, {"s", "01234"}, {"p0", "wh;"}, {"r4", "wh;"}, {"p1w", "h;"}, {"p1h", ";"}, {"p1wh", ";"},
            {"p1;", "prts"}, {"p1w;", "prts"}, {"p1;p", "01234"}, {"p1h;t0", "wh;"}, {"p1wh;t0w", "h;"}};
        String deed = "[prts][0-5][rd][1-9][A-H]+";
        String rule = "[prts][0-4]w?h?";
        for (String[] c : deeds) {
            everyByte(0, c[0], c[1], deed + "(;" + deed + ")*");
        }
        for (String[] c : rules) {
            everyByte(1, c[0], c[1], rule + "(;" + rule + ")*");
        }
        says(4, "The FAULT of a text; NONE. BAD.");
        due("fault(-1)", fair("x", "x").fault(-1), -2);
        due("fault(0)", fair("x", "").fault(0), 0);
        due("fault(1)", fair("x", "").fault(1), -1);
        due("fault(2)", fair("x", "x").fault(2), -2);
        due("of letters that stand for no byte of a deed", fair("p0r1A,r1d2B", "").fault(0), 5);
        due("a fault stays where it is", fair("p6r1A;p0r1A", "").fault(0), 1);
        due("a fault stays where it is", fair("", "p5;p1;q").fault(1), 1);
        due("rules have no ninth part to fear", fair("", "p0;p1;p2;p3;p4;r0;r1;r2;r3;r4").fault(1), -1);
    }

    private static void everyByte(int text, String beginning, String fits, String whole) {
        for (int b = 0; b < 256; b++) {
            SecondChances x = new SecondChances();
            typeAll(x, text, beginning);
            x.type(text, b);
            int want = beginning.length();
            if (fits.indexOf(b) >= 0) {
                want = (beginning + (char) b).matches(whole) ? -1 : beginning.length() + 1;
            }
            due("fault(" + text + ") of " + beginning + " and byte " + b, x.fault(text), want);
        }
    }

    private static void faultsAtEnds() {
        says(TERMS, "(an empty one is well; of one that is not ended, its end)");
        String deeds = "p0r1A;s5d9H";
        int[] deedFaults = {-1, 1, 2, 3, 4, -1, 6, 7, 8, 9, 10, -1};
        for (int n = 0; n <= deeds.length(); n++) {
            due("fault(0) of " + deeds.substring(0, n), fair(deeds.substring(0, n), "").fault(0), deedFaults[n]);
        }
        String rules = "p0wh;s4";
        int[] ruleFaults = {-1, 1, -1, -1, -1, 5, 6, -1};
        for (int n = 0; n <= rules.length(); n++) {
            due("fault(1) of " + rules.substring(0, n), fair("", rules.substring(0, n)).fault(1), ruleFaults[n]);
        }
        due("a full text of deeds, not ended", fair(DEEDS_80.substring(0, 79) + ";", "").fault(0), 80);
        due("a full text of rules, not ended", fair("", RULES_40.substring(0, 39) + ";").fault(1), 40);

        says(TERMS, "or of the first byte of a ninth deed.");
        due("eight deeds", fair(EIGHT, "").fault(0), -1);
        due("a ninth deed to come", fair(EIGHT + ";", "").fault(0), 48);
        due("a ninth deed begun", fair(EIGHT + ";p", "").fault(0), 48);
        due("a ninth deed", fair(EIGHT + ";p0d1A", "").fault(0), 48);
        due("a tenth deed", fair(EIGHT + ";p0d1A;p0d1A", "").fault(0), 48);
        due("an eighth deed that cannot go on", fair(EIGHT.substring(0, 46) + "I;p0d1A", "").fault(0), 46);
    }

    private static void textsWithFaults() {
        says(TERMS, "With a FAULT it is as if it was empty.");
        SecondChances x = fair(EIGHT + ";p0d1A", "p4wh;r1;");
        for (int d = -1; d <= 8; d++) {
            due("deed(" + d + ", 3)", x.deed(d, 3), -2);
            due("can(" + d + ", 0)", x.can(d, 0), -2);
            due("hours(" + d + ")", x.hours(d), -2);
            due("when(" + d + ")", x.when(d), -2);
        }
        for (int kind = 0; kind < 4; kind++) {
            due("rule(" + kind + ", 0)", x.rule(kind, 0), 0);
            due("rule(" + kind + ", 1)", x.rule(kind, 1), 0);
            due("rule(" + kind + ", 2)", x.rule(kind, 2), 0);
        }
        due("most(0)", x.most(0), 0);
        due("crowd(0)", x.crowd(0), -1);
        due("best()", x.best(), -1);
        due("spared(1)", x.spared(1), -2);
        due("regrets(0, 0)", x.regrets(0, 0), 1);
        due("regrets(1, 0)", x.regrets(1, 0), LONG_NOT);
        due("count(0)", x.count(0), 0);
        due("count(3)", x.count(3), 0);
        due("count(6)", x.count(6), 0);
        x = fair("p0r1A", "p1w");
        due("a rule holds", x.hours(0), 0);
        x.type(1, ';');
        due("with a fault none holds", x.hours(0), 255);
        typeAll(x, 1, "r1");
        due("mended, it holds again", x.hours(0), 0);
    }

    private static void deeds() {
        says(5, "KIND (0), PLACE (1), WEATHER (2), WORTH (3), who was there, as bits (4). BAD.");
        SecondChances x = fair("p0d1A;s5r9HGFEDCBA;r0d1H", "");
        int[][] told = {{0, 0, 0, 1, 1}, {3, 5, 1, 9, 255}, {1, 0, 0, 1, 128}};
        for (int d = 0; d < 3; d++) {
            for (int what = 0; what < 5; what++) {
                due("deed(" + d + ", " + what + ")", x.deed(d, what), told[d][what]);
            }
        }
        due("deed(3, 0) of three", x.deed(3, 0), -2);
        due("deed(0, 0) of none", new SecondChances().deed(0, 0), -2);
        says(TERMS, "deeds with ; between them, 8 at most (0 on)");
        x = fair(EIGHT, "");
        due("deed(7, 3)", x.deed(7, 3), 1);
        due("deed(8, 3)", x.deed(8, 3), -2);
    }

    private static void rules() {
        says(6, "how many (0), whether it asks for weather (1), for the place (2). BAD.");
        SecondChances x = fair("", "p0;r4;t0wh;s4h");
        int[][] told = {{0, 0, 0}, {4, 0, 0}, {0, 1, 1}, {4, 0, 1}};
        for (int kind = 0; kind < 4; kind++) {
            for (int what = 0; what < 3; what++) {
                due("rule(" + kind + ", " + what + ")", x.rule(kind, what), told[kind][what]);
            }
        }
        says(TERMS, "of like KINDS the last counts");
        x = fair("", "p4wh;p0");
        due("fewer, no weather, any place", x.rule(0, 0) + x.rule(0, 1) + x.rule(0, 2), 0);
        x = fair("", "p0;r1;p4wh");
        due("more", x.rule(0, 0) * 100 + x.rule(0, 1) * 10 + x.rule(0, 2), 411);
        due("another kind", x.rule(1, 0), 1);
        says(TERMS, "without one a KIND needs nobody, no weather, any place.");
        x = fair("s0r1A;s0r1A", "p4wh;r4wh;t4wh");
        x.person(0, 1, 0);
        due("hours of a kind without a rule", x.hours(0), 255);
        due("all in one hour", x.most(0) * 100 + x.when(0) * 10 + x.when(1), 200);
    }

    private static void people() {
        says(7, "what it was. BAD.");
        int[] first = {0, 8, 1, 16};
        int[] most = {7, 8, 99, 16};
        for (int p = 0; p < 8; p += 7) {
            for (int what = 0; what < 4; what++) {
                SecondChances x = new SecondChances();
                due("at first", x.person(p, what, 0), first[what]);
                due("after the least", x.person(p, what, most[what]), 0);
                due("too large", x.person(p, what, most[what] + 1), -2);
                due("too small", x.person(p, what, -1), -2);
                due("after the greatest", x.person(p, what, 0), most[what]);
            }
        }
        says(TERMS, "PEOPLE come from an HOUR (0 to 7) up to, not at, another one (0 to 8; 0 and 8 at first)");
        SecondChances x = fair("p0d1A", "p1");
        due("at first", x.hours(0), 255);
        int[][] spans = {{0, 8, 255}, {0, 0, 0}, {0, 1, 1}, {7, 8, 128}, {7, 7, 0}, {7, 0, 0}, {3, 3, 0}, {4, 3, 0}, {3, 4, 8}, {2, 6, 60}};
        for (int[] span : spans) {
            x.person(0, 0, span[0]);
            x.person(0, 1, span[1]);
            due("from " + span[0] + " up to " + span[1], x.hours(0), span[2]);
        }
    }

    private static void weatherAndSettings() {
        says(8, "The WEATHER of an HOUR: what it was. BAD.");
        SecondChances x = new SecondChances();
        for (int h = 0; h < 8; h++) {
            due("at first", x.weather(h, 1), 0);
            due("too large", x.weather(h, 2), -2);
            due("too small", x.weather(h, -1), -2);
            due("hours of rain", x.count(7), h + 1);
        }
        due("hour 8", x.weather(8, 1), -2);
        due("hour -1", x.weather(-1, 1), -2);
        due("hour 7 was wet", x.weather(7, 0), 1);
        due("hour 7 was dry", x.weather(7, 0), 0);

        says(9, "RAIN (what = 0), MADE (1), PURSE (2), ENOUGH (3): what it was. BAD.");
        int[] first = {9, 0, 999, 6};
        int[] most = {99, 1, 999, 10};
        for (int what = 0; what < 4; what++) {
            x = new SecondChances();
            due("at first", x.set(what, 0), first[what]);
            due("after the least", x.set(what, most[what]), 0);
            due("too large", x.set(what, most[what] + 1), -2);
            due("too small", x.set(what, -1), -2);
            due("after the greatest", x.set(what, 0), most[what]);
        }
    }

    private static void wordsOfTheNight() {
        says(TERMS, "THE NIGHT has 8 HOURS (0 to 7).");
        SecondChances x = fair("p0d1A;r0r1A", "p1;r1w");
        due("hour -1", x.can(0, -1), -2);
        due("hour 0", x.can(0, 0), 1);
        due("hour 7", x.can(0, 7), 1);
        due("hour 8", x.can(0, 8), -2);
        due("all of them", x.hours(0), 255);
        says(TERMS, "for a PRICE (0 to 99; 1 at first) for each HOUR in which they are asked.");
        due("1 at first", x.costs(0, 0), 1);
        x.person(0, 2, 0);
        due("0", x.costs(0, 0), 0);
        x.person(0, 2, 99);
        due("99", x.costs(0, 0), 99);
        due("100", x.person(0, 2, 100), -2);
        due("still 99", x.costs(0, 0), 99);
        x.weather(7, 1);
        due("in two hours", x.most(1), 198);
        says(TERMS, "The WEATHER of an HOUR is 0 or 1 (0 at first); to turn it costs RAIN (0 to 99; 9 at first).");
        x = fair("p0r1A;r0d1A", "p0w;r0w");
        x.set(1, 1);
        due("9 at first, from dry", x.costs(0, 0), 9);
        due("dry at first", x.costs(1, 0), 0);
        x.weather(0, 1);
        due("wet", x.costs(0, 0), 0);
        due("9 at first, from wet", x.costs(1, 0), 9);
        x.set(0, 0);
        due("0", x.costs(1, 0), 0);
        x.set(0, 99);
        due("99", x.costs(1, 0), 99);
        due("100", x.set(0, 100), -2);
        due("still 99", x.costs(1, 0), 99);
    }

    private static void reading() {
        says(10, "item by item, up to the first that is not 0, 1, eight at most: how many.");
        SecondChances x = new SecondChances();
        fill(x, 0, 0);
        due("no item", x.read(0), 0);
        fill(x, 0, 2, 1);
        due("one item", x.read(0), 1);
        same("one hour", sky(x), "10000000");
        fill(x, 1, 2, 0, 1, 0, 1, 0, 1, 0);
        due("seven items", x.read(1), 7);
        same("hour 7 stays", sky(x), "01010100");
        fill(x, 2, 1, 1, 0, 1, 0, 1, 0, 1, 1);
        due("eight items", x.read(2), 8);
        same("all hours", sky(x), "10101011");
        fill(x, 3, 0, 0, 0, 0, 0, 0, 0, 0, 1, 1);
        due("nine items", x.read(3), 8);
        same("the ninth goes nowhere", sky(x), "00000001");
        fill(x, 0, 2, 1, 1, 2, 1);
        due("up to a 2", x.read(0), 2);
        same("what is behind it stays", sky(x), "11000001");
        fill(x, 0, 2, -1, 0, 0);
        due("-1 at once", x.read(0), 0);
        same("all stays", sky(x), "11000001");
        fill(x, 0, 2, 0, 0, 1, 1, 1, 1, 1, GREATEST);
        due("the eighth is neither", x.read(0), 7);
        same("hour 7 stays", sky(x), "00111111");
        fill(x, 0, 0, 256, 257, 255, 1);
        due("bytes that wrapped", x.read(0), 2);
        same("0, 1", sky(x), "01111111");
        x = fair("p0r1A", "p1w");
        due("dry", x.hours(0), 0);
        due("none", x.when(0), -1);
        fill(x, 0, 0, 0, 0, 1);
        x.read(0);
        due("in the rain that was read", x.hours(0), 4);
        due("by MOST, too", x.when(0), 2);
        fill(x, 0, 0, 0, 0, 0);
        x.read(0);
        due("dry again", x.hours(0), 0);
        due("none again", x.when(0), -1);
        x = fill(new SecondChances(), 0, 0, 0, 1, 1, 1, 1, 1, 1, 1);
        x.read(0);
        says(10, "BAD; NULL.");
        x.lose(0);
        due("lost", x.read(0), NULL);
        due("no such sheet", x.read(4), -2);
        same("all stays", sky(x), "01111111");
    }

    // ---- the night

    private static void canAtEdges() {
        says(11, "Whether a deed CAN be done over in an HOUR: 1, 0. BAD.");
        SecondChances x = fair("p0d1ABCDE;r0d1AB;t0d1A", "p4;r4;t1");
        due("can(2, 0)", x.can(2, 0), 1);
        due("can(3, 0)", x.can(3, 0), -2);
        due("can(0, 7)", x.can(0, 7), 1);
        due("can(0, 8)", x.can(0, 8), -2);
        due("can(0, -1)", x.can(0, -1), -2);
        x.person(4, 1, 0);
        due("just so many", x.can(0, 0), 1);
        x.person(3, 1, 0);
        due("one too few", x.can(0, 0), 0);

        says(TERMS, "(all who were there, if these are fewer)");
        due("both of two", x.can(1, 0), 1);
        x.person(1, 1, 0);
        due("one of two", x.can(1, 0), 0);
        due("one of one", x.can(2, 0), 1);

        says(12, "HOURS of a deed, as bits. BAD.");
        x = fair("p0r1A", "p1w");
        due("in no hour", x.hours(0), 0);
        x.weather(7, 1);
        due("in the last hour", x.hours(0), 128);
        x.weather(0, 1);
        due("in the first hour, too", x.hours(0), 129);
        says(TERMS, "it CAN, too, where MADE is 1 (0 at first): that HOUR is turned.");
        due("MADE at first", x.set(1, 1), 0);
        due("in all hours", x.hours(0), 255);
        due("turned", x.costs(0, 1), 10);
        due("not turned", x.costs(0, 0), 1);
        x.person(0, 0, 7);
        due("rain brings nobody", x.hours(0), 128);
        due("MADE no more", x.set(1, 0), 1);
        due("as without", x.hours(0), 128);
    }

    private static void comesAtEdges() {
        says(13, "Who comes then, as bits. BAD; NOT: it CANNOT.");
        SecondChances x = fair("p0d1ABCDEFGH;r0r1H;t0d1ABCDEFGH", "p4;r1w");
        due("the first four of eight", x.comes(0, 0), 15);
        due("it cannot", x.comes(1, 0), -3);
        due("it cannot, in no such hour", x.comes(1, 8), -2);
        due("nobody is needed", x.comes(2, 0), 0);
        due("no such deed", x.comes(3, 0), -2);
        x.weather(0, 1);
        due("the last one", x.comes(1, 0), 128);

        says(TERMS, "The cheapest so many of those COME, of like PRICES the least numbers.");
        x.person(7, 2, 0);
        due("one for nothing", x.comes(0, 0), 135);
        for (int p = 0; p < 4; p++) {
            x.person(p, 2, 99);
        }
        due("the cheap ones of eight", x.comes(0, 0), 240);
        x.person(5, 0, 1);
        due("the first of the dear ones", x.comes(0, 0), 209);
        x.person(0, 1, 0);
        due("the second of the dear ones", x.comes(0, 0), 210);
        x.person(3, 2, 98);
        due("the least dear of them", x.comes(0, 0), 216);
        due("in the next hour one more can", x.comes(0, 1), 240);
        due("in the last hour, too", x.comes(0, 7), 240);
    }

    private static void costsAtEdges() {
        says(14, "What it COSTS. BAD; NOT: it CANNOT.");
        SecondChances x = fair("p0r1ABCD;r0r1A;t0r1A", "p4w;r0w");
        due("it cannot", x.costs(0, 0), -3);
        due("it cannot, with no such hour", x.costs(0, -1), -2);
        x.set(1, 1);
        due("people and rain", x.costs(0, 0), 13);
        due("rain alone", x.costs(1, 0), 9);
        due("nothing", x.costs(2, 0), 0);
        for (int p = 0; p < 4; p++) {
            x.person(p, 2, 99);
        }
        x.set(0, 99);
        due("the most", x.costs(0, 7), 495);
        x.weather(7, 1);
        due("the most without rain", x.costs(0, 7), 396);
        x.set(0, 0);
        due("rain for nothing", x.costs(1, 0), 0);
        for (int p = 0; p < 4; p++) {
            x.person(p, 2, 0);
        }
        due("people for nothing", x.costs(0, 0), 0);
    }

    private static void plansApart() {
        says(TERMS, "in one HOUR no one of the PEOPLE at two deeds, no two whose RULES ask for the place in one PLACE,"
            + " no two whose RULES ask for weather that was unlike.");
        SecondChances x = fair("p0d1AB;r0d1BA;t3d1C;s3d1D;t3r1E;s3r1F", "p1;r1;t1h;s1h");
        int[] none = {-1, -1, -1, -1, -1, -1};
        int[][] pairs = {{0, 1}, {2, 3}, {2, 5}, {0, 2}, {4, 5}};
        int[] may = {0, 0, 0, 1, 0};
        for (int i = 0; i < pairs.length; i++) {
            int[] row = none.clone();
            row[pairs[i][0]] = 6;
            row[pairs[i][1]] = 6;
            due("deeds " + pairs[i][0] + ", " + pairs[i][1] + " in one hour", fill(x, 0, 0, row).plan(0, 0), may[i]);
            row[pairs[i][1]] = 7;
            due("deeds " + pairs[i][0] + ", " + pairs[i][1] + " in two", fill(x, 0, 0, row).plan(0, 0), 1);
        }
        x = fair("p0d1AB;r0d1BC;s0d1AC", "p1;r1");
        due("who was there but does not come is free", fill(x, 0, 0, 0, 0, 0).plan(0, 0), 1);
        x = fair("p3d1A;p3d1B;r3d1C", "p1h;r1");
        due("only one asks for the place", fill(x, 0, 0, 0, -1, 0).plan(0, 0), 1);
        due("two of one kind ask for it", fill(x, 0, 0, 0, 0, -1).plan(0, 0), 0);
        x = fair("p3d1A;p4d1B", "p1h");
        due("in next places", fill(x, 0, 0, 0, 0).plan(0, 0), 1);
        x = fair("p3d1A;p4r1B;r5r1C;p1r1D", "p1w;r1");
        x.set(1, 1);
        due("weather that was unlike", fill(x, 0, 0, 0, 0, -1, -1).plan(0, 0), 0);
        due("only one asks for weather", fill(x, 0, 0, 0, -1, 0, -1).plan(0, 0), 1);
        due("like weather", fill(x, 0, 0, -1, 0, 0, 0).plan(0, 0), 1);
        says(TERMS, "It costs what all cost who come, and RAIN for each HOUR that is turned.");
        due("turned for two, paid once", x.plan(0, 2), 12);
        due("turned twice", fill(x, 0, 0, -1, 0, 0, 1).plan(0, 2), 21);
        x.weather(0, 1);
        due("turned once", x.plan(0, 2), 12);
        x.weather(1, 1);
        due("not turned", x.plan(0, 2), 3);
        due("turned dry", fill(x, 0, 0, 0, -1, 0, -1).plan(0, 2), 11);
    }

    private static void mostByPurse() {
        says(TERMS, "of PLANS that cost no more than the PURSE (0 to 999; 999 at first)");
        SecondChances x = fair("p0d5ABCD;p0d5EFGH;r0d3AB;t0r2A", "p4;r2;t0w");
        for (int p = 0; p < 8; p++) {
            x.person(p, 2, 99);
        }
        x.set(1, 1);
        says(15, "its WORTH (what = 0), its cost (1). BAD.");
        due("worth for 999", x.most(0), 15);
        due("999", x.most(1), 999);
        x.set(0, 10);
        due("worth without 1000", x.most(0), 13);
        due("990", x.most(1), 990);
        x.set(2, 989);
        due("worth for 989", x.most(0), 12);
        due("802", x.most(1), 802);
        x.set(2, 9);
        due("worth for 9", x.most(0), 0);
        due("cost", x.most(1), 0);
        x.set(2, 10);
        due("worth for 10", x.most(0), 2);
        due("cost", x.most(1), 10);
        x.set(0, 0);
        x.set(2, 0);
        due("worth for nothing", x.most(0), 2);
        due("cost", x.most(1), 0);
        due("most(2)", x.most(2), -2);
        due("most(-1)", x.most(-1), -2);
    }

    private static void mostOfLikeOnes() {
        says(TERMS, "of like ones the cheapest, of like ones the least row (HOURS of deeds 0 on; none is ahead of HOUR 0).");
        SecondChances x = fair("p0d1A;p0d1A;p0d1A", "p1");
        same("like worth, like cost", row(x), "0 1 2");
        x.person(0, 1, 2);
        same("two hours: the first does without", row(x), "-1 0 1");
        x.person(0, 0, 1);
        same("one hour: the last has it", row(x), "-1 -1 1");
        x = fair("p0d2A;p0d1B;p0d1C", "p1h");
        x.set(2, 1);
        x.person(1, 2, 0);
        x.person(2, 2, 0);
        same("greater worth first", row(x), "0 1 2");
        x.person(1, 2, 1);
        same("for 1: the worthy one and the free one", row(x), "0 -1 1");
        x = fair("p0d2A;p0d1B;p0d1C", "p1h");
        x.set(2, 2);
        same("3 by two, of like ones the least row", row(x), "0 -1 1");
        x.person(0, 2, 2);
        same("2 by one for 2, or by two for 2: the least row", row(x), "-1 0 1");
        x.person(1, 2, 0);
        same("3 by two for 2", row(x), "0 1 -1");
        x.set(2, 1);
        same("2 by two for 1", row(x), "-1 0 1");
        x.person(0, 2, 0);
        x.person(1, 2, 1);
        x.set(2, 0);
        same("2 by one for nothing", row(x), "0 -1 -1");
        x = fair("p0r1A;p0d1A", "p1w");
        x.weather(0, 1);
        x.set(1, 1);
        same("cheaper without turning, though the row is greater", row(x), "0 1");
        x.weather(0, 0);
        x.weather(6, 1);
        same("the first rainy hour is the seventh", row(x), "6 0");
        x.set(0, 0);
        same("where rain is free, the least row", row(x), "0 1");
        x = fair(EIGHT, "");
        same("eight in one hour", row(x), "0 0 0 0 0 0 0 0");
        x = fair(EIGHT, "p0h");
        same("eight in one place", row(x), "0 1 2 3 4 5 6 7");
    }

    private static void whenThereIsNone() {
        says(16, "The HOUR of a deed by MOST; NONE. BAD.");
        SecondChances x = fair("p0d1A;r0d1B", "p1");
        x.person(0, 0, 7);
        due("the last hour", x.when(0), 7);
        due("the first hour", x.when(1), 0);
        x.person(0, 1, 7);
        due("none", x.when(0), -1);
        due("no such deed", x.when(2), -2);
        due("no such deed", x.when(-1), -2);
        due("of none", new SecondChances().when(0), -2);
    }

    private static void planSheets() {
        says(17, "BAD; NULL; NOT: it has fewer items than there are deeds, or (1, 2) is none.");
        SecondChances x = fair("p0d4A;r0d3A", "p1;r1");
        for (int what = 0; what < 3; what++) {
            due("lost", x.plan(0, what), NULL);
            fill(x, 0, 2);
            due("no items", x.plan(0, what), -3);
            fill(x, 0, 2, -1);
            due("one item of two", x.plan(0, what), -3);
            x.lose(0);
        }
        fill(x, 0, 2, -1, -1);
        due("two items of two", x.plan(0, 0), 1);
        fill(x, 0, 2, 3, 3);
        due("none", x.plan(0, 0), 0);
        due("worth of none", x.plan(0, 1), -3);
        due("cost of none", x.plan(0, 2), -3);

        says(17, "(its items are HOURS of deeds 0 on, or NONE)");
        int[] off = {LEAST, -3, -2, 8, 9, 256, GREATEST};
        for (int v : off) {
            due("first item " + v, fill(x, 0, 2, v, -1).plan(0, 0), 0);
            due("last item " + v, fill(x, 0, 2, -1, v).plan(0, 0), 0);
        }
        due("byte 256 is HOUR 0", fill(x, 0, 0, 256, 255).plan(0, 0), 1);
        due("and byte 255 is NONE", x.plan(0, 1), 4);
        due("short 65543 is HOUR 7", fill(x, 0, 1, 65543, 65535).plan(0, 1), 4);
        due("hours 0 and 7", fill(x, 0, 2, 0, 7).plan(0, 1), 7);
        due("behind the deeds any item", fill(x, 0, 2, 0, 7, 0, 7, 99, LEAST).plan(0, 1), 7);

        says(17, "whatever the PURSE");
        x = fair("p0r1ABCD;p0r1ABCD;p0r1ABCD;p0r1ABCD;p0r1ABCD;p0r1ABCD;p0r1ABCD;p0r1ABCD", "p4wh");
        for (int p = 0; p < 4; p++) {
            x.person(p, 2, 99);
        }
        x.set(0, 99);
        x.set(1, 1);
        x.set(2, 0);
        fill(x, 3, 0, 0, 1, 2, 3, 4, 5, 6, 7);
        due("the dearest plan", x.plan(3, 2), 3960);
        due("its worth", x.plan(3, 1), 8);
        due("with no money", x.most(0), 0);
        x = fill(new SecondChances(), 0, 0);
        due("no deeds, no items", x.plan(0, 0), 1);
        due("no worth", x.plan(0, 1), 0);
        due("no cost", x.plan(0, 2), 0);
    }

    // ---- crowds, likeness

    private static void askedAndCrowd() {
        says(18, "ASKED. BAD.");
        SecondChances x = fair("p0d1H;p0d1H;p0d1H;p0d1H;p0d1H;p0d1H;p0d1H;p0r1HG", "p1w");
        due("by seven", x.asked(7, 7), 7);
        due("by none", x.asked(6, 7), 0);
        x.set(1, 1);
        due("turned for it, G comes", x.asked(6, 0), 1);
        x.person(7, 2, 0);
        due("by eight", x.asked(7, 0), 8);
        x.person(7, 1, 7);
        due("gone at the end", x.asked(7, 7), 0);
        due("person 8", x.asked(8, 0), -2);
        due("hour 8", x.asked(0, 8), -2);

        says(19, "who (what = 0; NONE: nobody is ASKED), the HOUR (1; NONE), how many (2). BAD.");
        due("who", x.crowd(0), 7);
        due("when", x.crowd(1), 0);
        due("how many", x.crowd(2), 8);
        x.wipe(0);
        due("who", x.crowd(0), -1);
        due("when", x.crowd(1), -1);
        due("how many", x.crowd(2), 0);
        due("crowd(3)", x.crowd(3), -2);
        due("crowd(-1)", x.crowd(-1), -2);

        says(TERMS, "for whom and in which that is greatest, of like ones the least number, then HOUR.");
        x = fair("p0d1GH;r0d1H", "p2;r1");
        due("the greatest, not the first", x.crowd(0) * 10 + x.crowd(1), 70);
        x.person(7, 0, 7);
        due("in the last hour", x.crowd(0) * 10 + x.crowd(1), 77);
        x = fair("p0d1GH", "p2");
        x.person(6, 0, 5);
        due("the least number in its first hour", x.crowd(0) * 10 + x.crowd(1), 65);
    }

    private static void likeness() {
        says(20, "LIKENESS. BAD; NOT: it CANNOT.");
        SecondChances x = fair("p0d1A;r0r1A;t0r1ABCDEFGH", "p1wh;r1w");
        due("all", x.likeness(0, 0), 10);
        due("in the last hour", x.likeness(0, 7), 10);
        due("it cannot", x.likeness(1, 0), -3);
        due("nothing", x.likeness(2, 0), 0);
        due("no such deed", x.likeness(3, 0), -2);
        due("it cannot, in no such hour", x.likeness(1, 8), -2);
        says(TERMS, "3 times as many as COME by how many were there (cut).");
        int[][] shares = {{0, 3, 3, 3, 3}, {0, 1, 3, 3, 3}, {0, 1, 2, 3, 3}, {0, 0, 1, 2, 3},
            {0, 0, 1, 1, 2}, {0, 0, 1, 1, 2}, {0, 0, 0, 1, 1}, {0, 0, 0, 1, 1}};
        for (int there = 1; there <= 8; there++) {
            for (int many = 0; many <= 4; many++) {
                String deed = "p0r1" + "ABCDEFGH".substring(0, there);
                due(many + " of " + there, fair(deed, "p" + many).likeness(0, 0), shares[there - 1][many]);
            }
        }
        says(TERMS, "3 for like WEATHER (as it is, or is turned for it)");
        x = fair("p0r1A;r0r1A", "p0w");
        x.set(1, 1);
        due("turned for it", x.likeness(0, 0), 3);
        due("not for this one", x.likeness(1, 0), 0);
        x.weather(0, 1);
        due("as it is", x.likeness(0, 0), 3);
        due("for this one, too", x.likeness(1, 0), 3);
    }

    private static void oddsByEnough() {
        says(TERMS, "if LIKENESS is ENOUGH at least (0 to 10; 6 at first)");
        SecondChances x = fair("p0d1A;r0r1AB;t0d1ABCDE;s0d1A", "p1h;r1h;t1h;s0h");
        due("LIKENESS 10", x.likeness(0, 0), 10);
        due("LIKENESS 5", x.likeness(1, 0), 5);
        due("LIKENESS 7", x.likeness(2, 0), 7);
        due("5 is not 6", x.odds(1, 0, 0), 0);
        due("7 is enough", x.odds(2, 0, 0), 1);
        x.set(3, 5);
        due("5 is 5", x.odds(1, 0, 0), 1);
        x.set(3, 7);
        due("7 is 7", x.odds(2, 0, 0), 1);
        x.set(3, 8);
        due("7 is not 8", x.odds(2, 0, 0), 0);
        x.set(3, 10);
        due("10 is 10", x.odds(0, 0, 0), 1);
        due("7 is not 10", x.odds(2, 0, 0), 0);
        due("nobody is there to refuse: above", x.odds(3, 0, 0), 1);
        due("below", x.odds(3, 0, 1), 1);
        x = fair("p0r1ABCD", "p1");
        due("LIKENESS 0", x.likeness(0, 0), 0);
        due("0 is not 6", x.odds(0, 0, 0), 0);
        x.set(3, 1);
        due("0 is not 1", x.odds(0, 0, 0), 0);
        x.set(3, 0);
        due("0 is 0", x.odds(0, 0, 0), 1);
        due("below", x.odds(0, 0, 1), 1);
    }

    private static void oddsByMemory() {
        says(TERMS, "by MEMORY sixteenths (0 to 16 of each; 16 at first), each by oneself");
        SecondChances x = fair("p0r1ABCDE", "p4");
        due("16 at first: above", x.odds(0, 0, 0), 0);
        says(TERMS, "above, below, in lowest terms (0 by 1); NOT: it CANNOT.");
        due("0 by 1", x.odds(0, 0, 1), 1);
        int[][] fractions = {{0, 0, 0, 0, 1, 1}, {1, 0, 0, 0, 15, 16}, {8, 0, 0, 0, 1, 2}, {15, 15, 15, 15, 1, 65536},
            {1, 1, 1, 1, 50625, 65536}, {12, 6, 0, 0, 5, 32}, {16, 0, 0, 0, 0, 1}, {4, 8, 12, 14, 3, 256}};
        for (int[] f : fractions) {
            for (int p = 0; p < 4; p++) {
                x.person(p, 3, f[p]);
            }
            due("above by " + f[0] + ", " + f[1] + ", " + f[2] + ", " + f[3], x.odds(0, 0, 0), f[4]);
            due("below by " + f[0] + ", " + f[1] + ", " + f[2] + ", " + f[3], x.odds(0, 0, 1), f[5]);
        }
        says(21, "ODDS: above, below. BAD; NOT. (A refusal -x is the least long and x more.)");
        due("BAD", x.odds(0, 0, 2), LONG_BAD);
        due("BAD", x.odds(1, 0, 0), LONG_BAD);
        due("in the last hour", x.odds(0, 7, 1), 256);
        x.person(0, 1, 0);
        x.person(1, 1, 0);
        due("NOT", x.odds(0, 0, 0), LONG_NOT);
        due("NOT", x.odds(0, 0, 1), LONG_NOT);
        due("BAD ahead of NOT", x.odds(0, 0, -1), LONG_BAD);
        due("BAD ahead of NOT", x.odds(0, 8, 0), LONG_BAD);
    }

    // ---- hats, what follows

    private static void sightings() {
        says(22, "A SIGHTING more: its number. BAD; FULL.");
        SecondChances x = new SecondChances();
        due("the first", x.seen(0, 0, 0), 0);
        due("the greatest of all", x.seen(7, 5, 7), 1);
        due("person 8", x.seen(8, 5, 7), -2);
        due("place 6", x.seen(7, 6, 7), -2);
        due("hour 8", x.seen(7, 5, 8), -2);
        for (int n = 2; n < 10; n++) {
            due("number", x.seen(n % 8, 0, 0), n);
        }
        says(TERMS, "HATS: SIGHTINGS, 10 at most");
        due("an eleventh", x.seen(0, 0, 0), -4);
        due("an eleventh of nobody", x.seen(8, 0, 0), -2);
        due("ten", x.count(4), 10);
        x.forget(0);
        due("the first again", x.seen(0, 0, 0), 0);

        says(23, "Whether two SIGHTINGS are FALSE: 1, 0. BAD: also one with itself.");
        due("with itself", x.isFalse(0, 0), -2);
        due("one that is not there any more", x.isFalse(0, 1), -2);
        due("one that is not there any more", x.isFalse(1, 0), -2);
        x.seen(0, 1, 0);
        due("the first and the last", x.isFalse(0, 1), 1);
        due("the last and the first", x.isFalse(1, 0), 1);
        due("the last and the next", x.isFalse(1, 2), -2);
        says(TERMS, "if they are in one HOUR in unlike PLACES, or in next HOURS in PLACES that differ by more than 2.");
        for (int place = 0; place < 6; place++) {
            for (int hour = 0; hour < 8; hour++) {
                x = new SecondChances();
                x.seen(4, 2, 3);
                x.seen(4, place, hour);
                x.seen(5, place, hour);
                int apart = hour == 3 && place != 2 || (hour == 2 || hour == 4) && place == 5 ? 1 : 0;
                due("2 at 3, " + place + " at " + hour, x.isFalse(0, 1), apart);
                due(place + " at " + hour + ", 2 at 3", x.isFalse(1, 0), apart);
                due("another one", x.isFalse(0, 2), 0);
            }
        }
        int[][] far = {{0, 2, 0}, {0, 3, 1}, {0, 5, 1}, {5, 3, 0}, {5, 2, 1}, {1, 4, 1}, {1, 3, 0}};
        for (int[] f : far) {
            x = new SecondChances();
            x.seen(0, f[0], 7);
            x.seen(0, f[1], 6);
            x.seen(0, f[1], 0);
            due(f[0] + " and " + f[1] + " in next hours", x.isFalse(0, 1), f[2]);
            due("hour 0 is not next to hour 7", x.isFalse(0, 2), 0);
        }
    }

    private static void hats() {
        says(24, "how many (what = 0), as bits (1). BAD.");
        SecondChances x = new SecondChances();
        due("of none", x.hats(0) + x.hats(1), 0);
        x.seen(0, 0, 0);
        due("of one", x.hats(0) + x.hats(1), 0);
        due("hats(2)", x.hats(2), -2);
        due("hats(-1)", x.hats(-1), -2);
        says(TERMS, "The fewest SIGHTINGS that are of false hats, such that no two others of one are FALSE; of like ones the least as bits.");
        x.seen(0, 1, 0);
        due("one of two: how many", x.hats(0), 1);
        due("the least", x.hats(1), 1);
        for (int i = 2; i < 10; i++) {
            x.seen(0, i % 2, 0);
        }
        due("five of ten", x.hats(0), 5);
        due("the even ones", x.hats(1), 341);
        x.forget(0);
        for (int i = 0; i < 10; i++) {
            x.seen(0, i % 6, 0);
        }
        due("all but two of ten in six places", x.hats(0), 8);
        due("the least as bits", x.hats(1), 503);
        x.forget(0);
        x.seen(0, 0, 0);
        x.seen(0, 3, 1);
        x.seen(0, 0, 2);
        due("one between two: fewer, though not the least as bits", x.hats(1), 2);
        x.forget(0);
        for (int p = 0; p < 5; p++) {
            x.seen(p, 0, 0);
            x.seen(p, 5, 1);
        }
        due("one of each", x.hats(0), 5);
        due("the first of each", x.hats(1), 341);
        x.forget(0);
        for (int i = 0; i < 10; i++) {
            x.seen(i % 8, 0, 0);
        }
        due("none of ten", x.hats(0), 0);
    }

    private static void pairs() {
        says(25, "A deed (0 to 7, whether it is there or not) led to another one: how many pairs. BAD: also to itself; FULL.");
        SecondChances x = new SecondChances();
        due("without any deed", x.after(0, 7), 1);
        due("the other way", x.after(7, 0), 2);
        for (int d = 0; d < 8; d++) {
            due("to itself", x.after(d, d), -2);
        }
        due("after(8, 0)", x.after(8, 0), -2);
        due("after(0, 8)", x.after(0, 8), -2);
        due("after(8, 8)", x.after(8, 8), -2);
        due("still two", x.count(5), 2);
        for (int n = 3; n <= 10; n++) {
            due("pair " + n, x.after(n - 3, (n - 2) % 8), n);
        }
        says(TERMS, "(pairs, 10 at most)");
        due("an eleventh", x.after(0, 2), -4);
        due("an eleventh that is there already", x.after(0, 7), -4);
        due("an eleventh to itself", x.after(3, 3), -2);
        due("an eleventh of no deed", x.after(-1, 3), -2);
        due("ten", x.count(5), 10);
        typeAll(x, 0, EIGHT);
        due("a ring of eight", x.spared(1), 7);
    }

    private static void forgetting() {
        says(26, "SIGHTINGS (what = 0), pairs (1) are forgotten: how many. BAD.");
        SecondChances x = fair(EIGHT, "");
        due("no sightings", x.forget(0), 0);
        due("no pairs", x.forget(1), 0);
        for (int i = 0; i < 10; i++) {
            x.seen(0, i % 6, 0);
            x.after(i % 7, 7);
        }
        due("forget(2)", x.forget(2), -2);
        due("forget(-1)", x.forget(-1), -2);
        due("ten sightings", x.forget(0), 10);
        due("pairs stay", x.spared(1), 1);
        due("no hats", x.hats(1), 0);
        due("ten pairs", x.forget(1), 10);
        due("nothing is spared", x.spared(1), 0);
        due("from 0 on", x.seen(0, 0, 0), 0);
        due("from 1 on", x.after(0, 1), 1);
        due("no hats of before", x.hats(1), 0);
    }

    private static void spared() {
        says(27, "SPARED by a set of deeds that there are, as bits. BAD.");
        SecondChances x = new SecondChances();
        due("no deeds, no set", x.spared(0), 0);
        due("no deeds, a set", x.spared(1), -2);
        typeAll(x, 0, "p0d1A;p0d2A;p0d4A");
        due("all three", x.spared(7), 0);
        due("a fourth", x.spared(8), -2);
        due("the greatest int", x.spared(GREATEST), -2);
        due("the least int", x.spared(LEAST), -2);
        due("-1", x.spared(-1), -2);
        says(TERMS, "WORTH of those not in it to which one comes from it by such pairs of deeds that there are, one behind the other.");
        x.after(0, 3);
        x.after(3, 1);
        due("over a deed that is not there", x.spared(1), 0);
        typeAll(x, 0, ";p0d8A");
        due("over it when it is there", x.spared(1), 10);
        x.after(1, 0);
        due("round, without itself", x.spared(1), 10);
        due("round, from the next", x.spared(2), 9);
        due("by none", x.spared(0), 0);
        due("not backwards", x.spared(4), 0);
        x = fair(EIGHT, "");
        for (int d = 7; d > 0; d--) {
            x.after(d - 1, d);
        }
        due("eight one behind the other, told last first", x.spared(1), 7);
        due("from the last", x.spared(128), 0);
        due("from all", x.spared(255), 0);
        due("from all and one more", x.spared(256), -2);
        x.forget(1);
        for (int d = 7; d > 0; d--) {
            x.after(d, d - 1);
        }
        due("eight, backwards", x.spared(128), 7);
        due("twice told counts once", x.after(7, 6), 8);
        due("twice told counts once", x.spared(128), 7);
    }

    private static void best() {
        says(28, "BEST one; NONE: there is no deed.");
        due("of none", new SecondChances().best(), -1);
        due("of one", fair("p0d1A", "").best(), 0);
        due("with a fault", fair("p0d1A;", "").best(), -1);
        says(TERMS, "its WORTH and what is SPARED is greatest, of like ones the least; NONE.");
        SecondChances x = fair("p0d4A;p0d5A;p0d9A", "");
        due("the last", x.best(), 2);
        x.after(0, 1);
        due("4 and 5 are 9", x.best(), 0);
        x.after(2, 0);
        due("all of them", x.best(), 2);
        x.after(1, 2);
        due("like ones", x.best(), 0);
        x = fair(EIGHT, "");
        due("eight like ones", x.best(), 0);
        x.after(7, 6);
        due("the eighth", x.best(), 7);
    }

    private static void regrets() {
        says(29, "REGRETS: above, below. BAD; NOT. (A refusal -x is the least long and x more.)");
        SecondChances x = new SecondChances();
        due("0 of none", x.regrets(0, 0) * 10 + x.regrets(0, 1), 11);
        due("1 of none", x.regrets(1, 0), LONG_NOT);
        due("8 of none", x.regrets(8, 1), LONG_NOT);
        due("9 of none", x.regrets(9, 0), LONG_BAD);
        due("-1", x.regrets(-1, 0), LONG_BAD);
        due("BAD ahead of NOT", x.regrets(8, 2), LONG_BAD);
        says(TERMS, "the chance that of m deeds (0 to 8), picked alike at random of all there are, none CAN be done over in any HOUR");
        x = fair("p0r1A;p0r1A;p0r1A;p0r1A;r0d1A;r0d1A;r0d1A;r0d1A", "p0w");
        int[][] four = {{1, 1}, {1, 2}, {3, 14}, {1, 14}, {1, 70}, {0, 1}, {0, 1}, {0, 1}, {0, 1}};
        for (int m = 0; m <= 8; m++) {
            due("above of " + m, x.regrets(m, 0), four[m][0]);
            due("below of " + m, x.regrets(m, 1), four[m][1]);
        }
        says(TERMS, "above, below, in lowest terms (0 by 1); NOT: there are fewer.");
        x = fair("p0r1A;p0r1A;p0r1A;p0r1A;p0r1A;p0r1A;p0r1A;p0r1A", "p0w");
        due("all eight are hopeless: above", x.regrets(8, 0), 1);
        due("below", x.regrets(8, 1), 1);
        x.weather(7, 1);
        due("one hour is enough: above", x.regrets(8, 0), 0);
        due("below", x.regrets(8, 1), 1);
        due("of one", x.regrets(1, 0) * 10 + x.regrets(1, 1), 1);
        x = fair("p0r1A;p0r1A", "p0w");
        due("2 of two", x.regrets(2, 0) * 10 + x.regrets(2, 1), 11);
        due("3 of two", x.regrets(3, 0), LONG_NOT);
        due("3 of two", x.regrets(3, 1), LONG_NOT);
    }

    // ---- sheets

    private static void wordsOfSheets() {
        says(TERMS, "SHEETS 0 .. 3 are LOST (at first) or a row of a FORM: 0 bytes, 1 shorts, 2 ints, of 0 to 60 items (0 at first).");
        SecondChances x = new SecondChances();
        due("sheet -1", x.sheet(-1, 0, 1), -2);
        due("sheet 4", x.sheet(4, 0, 1), -2);
        for (int s = 0; s < 4; s++) {
            due("sheet " + s + " is lost", x.lose(s), NULL);
            due("sheet " + s, x.sheet(s, s % 3, 60), 60);
            for (int i = 0; i < 60; i++) {
                due("item " + i + " at first", x.get(s, s % 3, i), 0);
            }
        }
        due("form -1", x.sheet(0, -1, 1), -2);
        due("form 3", x.sheet(0, 3, 1), -2);

        says(TERMS, "FINDINGS (answers -10 less the number; they change nothing but count() 8): 1 NULL: the SHEET is LOST;"
            + " 2 INDEX: there is no such item; 3 CAST: it has another FORM; 4 STORE: unlike FORMS; 5 SIZE: below 0.");
        x = fill(new SecondChances(), 0, 0, 5);
        x.sheet(1, 1, 1);
        long before = x.digest();
        long[] answers = {x.lose(2), x.count(8), x.put(0, 0, 1, 6), x.count(8), x.put(0, 1, 0, 6), x.count(8),
            x.copy(0, 0, 1, 0, 1), x.count(8), x.sheet(0, 0, -1), x.count(8)};
        for (int number = 1; number <= 5; number++) {
            due("finding " + number, answers[2 * number - 2], -10 - number);
            due("is the latest", answers[2 * number - 1], number);
        }
        due("digest", x.digest(), before);
        due("items", x.get(0, 0, 0) * 10 + x.get(1, 1, 0), 50);
    }

    private static void wordsOfRefusals() {
        says(TERMS, "Refusals, the first that fits, in the order told at each act: BAD -2 (a number not as told, no such thing),"
            + " NULL, NOT -3 (as told), FULL -4, other FINDINGS.");
        SecondChances x = fair(DEEDS_80, RULES_40);
        due("BAD ahead of NULL", x.plan(0, 3), -2);
        due("NULL ahead of NOT", x.plan(0, 1), NULL);
        x.sheet(0, 0, 7);
        due("BAD ahead of NOT", x.plan(0, 3), -2);
        due("NOT", x.plan(0, 1), -3);
        due("BAD ahead of FULL", x.type(0, 256), -2);
        due("FULL", x.type(0, 255), -4);
        due("BAD ahead of SIZE", x.sheet(0, 3, -1), -2);
        due("SIZE", x.sheet(0, 2, -1), SIZE);
        due("BAD ahead of NULL, CAST, INDEX", x.put(1, 3, 7, 0), -2);
        due("NULL ahead of CAST, INDEX", x.put(1, 1, 7, 0), NULL);
        due("CAST ahead of INDEX", x.put(0, 1, 7, 0), CAST);
        due("INDEX", x.put(0, 0, 7, 0), INDEX);
        x.sheet(1, 1, 7);
        due("BAD ahead of NULL, INDEX", x.copy(2, -1, 4, -1, -1), -2);
        due("NULL ahead of INDEX", x.copy(2, -1, 1, -1, -1), NULL);
        due("STORE ahead of INDEX", x.copy(0, -1, 1, -1, -1), STORE);
        due("INDEX", x.copy(0, -1, 0, -1, -1), INDEX);

        says(TERMS, "They change nothing (FINDINGS but count() 8).");
        due("the latest finding", x.count(8), 2);
        long before = x.digest();
        due("BAD, FULL, NOT", x.type(0, -1) + x.type(0, 0) + x.plan(0, 1), -9);
        due("the latest finding still", x.count(8), 2);
        due("NULL", x.write(3), NULL);
        due("the latest finding now", x.count(8), 1);
        due("digest", x.digest(), before);

        says(TERMS, "Where the answer is a long, a refusal -x is the least long and x more.");
        due("BAD", x.odds(8, 0, 0), -9223372036854775806L);
        due("NOT", x.odds(0, 0, 0), -9223372036854775805L);
        due("BAD", x.regrets(9, 0), -9223372036854775806L);
        due("NOT", new SecondChances().regrets(1, 0), -9223372036854775805L);
    }

    private static void sheets() {
        says(30, "A SHEET is a new row of a FORM with n items: n. BAD: SHEET, FORM, above 60; SIZE.");
        for (int s = 0; s < 4; s++) {
            for (int form = 0; form < 3; form++) {
                SecondChances x = new SecondChances();
                due("60 items", x.sheet(s, form, 60), 60);
                due("the last is there", x.put(s, form, 59, 7), 1);
                due("61 items", x.sheet(s, form, 61), -2);
                due("the greatest int", x.sheet(s, form, GREATEST), -2);
                due("nothing found", x.count(8), 0);
                due("-1 items", x.sheet(s, form, -1), SIZE);
                due("the least int", x.sheet(s, form, LEAST), SIZE);
                due("found", x.count(8), 5);
                due("it is as it was", x.get(s, form, 59), 7);
                due("no items", x.sheet(s, form, 0), 0);
                due("it has none", x.put(s, form, 0, 7), INDEX);
            }
        }
        says(TERMS, "of 0 to 60 items (0 at first)");
        SecondChances x = fill(new SecondChances(), 2, 2, 1, 2, 3, 4);
        x.sheet(2, 2, 4);
        same("of the same form and size", items(x, 2, 2, 4), "0 0 0 0");
        fill(x, 2, 2, 1, 2, 3, 4);
        x.sheet(2, 0, 4);
        same("of another form", items(x, 2, 0, 4), "0 0 0 0");
        fill(x, 2, 0, 1, 2, 3, 4);
        x.lose(2);
        x.sheet(2, 0, 4);
        same("found again", items(x, 2, 0, 4), "0 0 0 0");
        fill(x, 1, 0, 1, 2, 3, 4);
        x.sheet(2, 0, 3);
        same("another sheet", items(x, 1, 0, 4), "1 2 3 4");
    }

    private static void losing() {
        says(31, "It is LOST: how many items it had. BAD; NULL.");
        SecondChances x = new SecondChances();
        due("lost at first", x.lose(0), NULL);
        x.sheet(0, 0, 60);
        x.sheet(3, 2, 0);
        due("60 items", x.lose(0), 60);
        due("twice", x.lose(0), NULL);
        due("no items", x.lose(3), 0);
        due("twice", x.lose(3), NULL);
        due("lose(4)", x.lose(4), -2);
        due("lose(-1)", x.lose(-1), -2);
        x.sheet(0, 0, 2);
        x.sheet(1, 0, 3);
        x.lose(0);
        due("another one stays", x.lose(1), 3);
    }

    private static void putting() {
        says(32, "(the lowest bits that it has, with its sign; by write(), too)");
        int[] values = {0, 127, 128, 255, 256, 257, -1, -128, -129, 32767, 32768, 65535, 65536, -32768, -32769, GREATEST, LEAST};
        SecondChances x = new SecondChances();
        for (int form = 0; form < 3; form++) {
            x.sheet(form, form, 1);
            for (int v : values) {
                int want = form == 0 ? (byte) v : form == 1 ? (short) v : v;
                due("put(" + form + ", " + form + ", 0, " + v + ")", x.put(form, form, 0, v), 1);
                due("it is", x.get(form, form, 0), want);
            }
        }
        int[][] wrapped = {{128, -128}, {255, -1}, {256, 0}, {-129, 127}};
        for (int[] w : wrapped) {
            x.put(0, 0, 0, w[0]);
            due("byte " + w[0], x.get(0, 0, 0), w[1]);
            x.put(1, 1, 0, w[0]);
            due("short " + w[0], x.get(1, 1, 0), w[0]);
        }
        says(32, "BAD; NULL; CAST; INDEX.");
        x = new SecondChances();
        x.sheet(0, 1, 2);
        due("first", x.put(0, 1, 0, 5), 1);
        due("last", x.put(0, 1, 1, 6), 1);
        due("behind the last", x.put(0, 1, 2, 7), INDEX);
        due("found", x.count(8), 2);
        due("ahead of the first", x.put(0, 1, -1, 7), INDEX);
        due("another form", x.put(0, 2, 0, 7), CAST);
        due("found", x.count(8), 3);
        due("another form, no such item", x.put(0, 0, 2, 7), CAST);
        due("lost, no such item", x.put(1, 0, -1, 7), NULL);
        due("found", x.count(8), 1);
        due("lost, no such form", x.put(1, 3, 0, 7), -2);
        due("lost, no such form", x.put(1, -1, 0, 7), -2);
        due("found still", x.count(8), 1);
        same("nothing changed", items(x, 0, 1, 2), "5 6");
    }

    private static void getting() {
        says(33, "BAD: the least int; so are NULL, CAST, INDEX (count() 8 tells).");
        SecondChances x = fill(new SecondChances(), 0, 2, 5, LEAST);
        due("first", x.get(0, 2, 0), 5);
        due("an item that is the least int", x.get(0, 2, 1), LEAST);
        due("nothing found", x.count(8), 0);
        due("no such sheet", x.get(4, 2, 0), LEAST);
        due("no such form", x.get(0, 3, 0), LEAST);
        due("no such form of a lost one", x.get(1, -1, 0), LEAST);
        due("nothing found", x.count(8), 0);
        due("behind the last", x.get(0, 2, 2), LEAST);
        due("INDEX", x.count(8), 2);
        due("another form, no such item", x.get(0, 1, 2), LEAST);
        due("CAST", x.count(8), 3);
        due("lost, no such item", x.get(1, 1, 60), LEAST);
        due("NULL", x.count(8), 1);
        due("ahead of the first", x.get(0, 2, -1), LEAST);
        due("INDEX", x.count(8), 2);
        due("an item", x.get(0, 2, 0), 5);
        due("INDEX is still the latest", x.count(8), 2);
        x.sheet(0, 2, 0);
        x.lose(1);
        due("of no items", x.get(0, 2, 0), LEAST);
        due("INDEX", x.count(8), 2);
    }

    private static void copying() {
        says(34, "BAD: the SHEETS; NULL: s, t; STORE; INDEX: i, j or n below 0, not so many there (of n 0, too: i or j above the size).");
        int[][] calls = {{4, 0, 3, 0, 1, -2, 0}, {3, 0, 4, 0, 1, -2, 0}, {-1, 0, 0, 0, 1, -2, 0}, {0, 0, -1, 0, 1, -2, 0},
            {3, 0, 0, 0, 1, NULL, 1}, {0, 0, 3, 0, 1, NULL, 1}, {3, -1, 3, -1, -1, NULL, 1}, {3, 0, 1, -1, 1, NULL, 1},
            {0, 0, 1, 0, 1, STORE, 4}, {1, 0, 0, 0, 0, STORE, 4}, {0, -1, 1, -1, -1, STORE, 4},
            {0, -1, 2, 0, 1, INDEX, 2}, {0, 0, 2, -1, 1, INDEX, 2}, {0, 0, 2, 0, -1, INDEX, 2}, {0, 0, 2, 0, 4, INDEX, 2},
            {0, 1, 2, 0, 3, INDEX, 2}, {2, 0, 0, 1, 3, INDEX, 2}, {2, 0, 0, 0, 4, INDEX, 2}, {0, 3, 2, 0, 1, INDEX, 2},
            {0, 0, 2, 5, 1, INDEX, 2}, {0, 4, 2, 0, 0, INDEX, 2}, {0, 0, 2, 6, 0, INDEX, 2}, {0, -1, 2, 0, 0, INDEX, 2},
            {0, 0, 2, -1, 0, INDEX, 2}, {0, GREATEST, 2, 0, GREATEST, INDEX, 2}, {0, 1, 2, 1, GREATEST, INDEX, 2},
            {0, GREATEST, 2, 0, 1, INDEX, 2}, {0, 0, 2, GREATEST, 1, INDEX, 2}, {0, LEAST, 2, 0, 1, INDEX, 2},
            {0, 0, 2, LEAST, 1, INDEX, 2}, {0, 0, 2, 0, LEAST, INDEX, 2}, {0, LEAST, 2, LEAST, LEAST, INDEX, 2},
            {0, 3, 2, 5, 0, 1, 0}, {0, 0, 2, 0, 0, 1, 0}, {2, 5, 0, 3, 0, 1, 0}, {0, 3, 0, 3, 0, 1, 0}};
        for (int[] c : calls) {
            SecondChances x = new SecondChances();
            fill(x, 0, 2, 1, 2, 3);
            fill(x, 1, 1, 7, 8);
            fill(x, 2, 2, 4, 5, 6, 7, 8);
            String call = "copy(" + c[0] + ", " + c[1] + ", " + c[2] + ", " + c[3] + ", " + c[4] + ")";
            due(call, x.copy(c[0], c[1], c[2], c[3], c[4]), c[5]);
            due("found by " + call, x.count(8), c[6]);
            same("after " + call, items(x, 0, 2, 3) + " " + items(x, 1, 1, 2) + " " + items(x, 2, 2, 5), "1 2 3 7 8 4 5 6 7 8");
        }
        says(34, "n items of SHEET s, from i on, come to SHEET t (perhaps s, as they were), from j on: 1.");
        SecondChances x = new SecondChances();
        fill(x, 0, 2, 1, 2, 3);
        fill(x, 2, 2, 4, 5, 6, 7, 8);
        due("all of it to the end", x.copy(0, 0, 2, 2, 3), 1);
        same("at the end", items(x, 2, 2, 5), "4 5 1 2 3");
        due("the end of it to the beginning", x.copy(2, 4, 0, 0, 1), 1);
        same("at the beginning", items(x, 0, 2, 3), "3 2 3");
        x.put(0, 2, 0, 9);
        same("the other one keeps its own", items(x, 2, 2, 5), "4 5 1 2 3");
    }

    private static void copyingInOne() {
        int[][] calls = {{0, 1, 4}, {1, 0, 4}, {0, 2, 3}, {2, 0, 3}, {0, 0, 5}, {0, 4, 1}, {4, 0, 1}};
        String[] want = {"1 1 2 3 4", "2 3 4 5 5", "1 2 1 2 3", "3 4 5 4 5", "1 2 3 4 5", "1 2 3 4 1", "5 2 3 4 5"};
        for (int form = 0; form < 3; form++) {
            for (int k = 0; k < calls.length; k++) {
                SecondChances x = fill(new SecondChances(), 3, form, 1, 2, 3, 4, 5);
                due("in one", x.copy(3, calls[k][0], 3, calls[k][1], calls[k][2]), 1);
                same("from " + calls[k][0] + " to " + calls[k][1] + ", " + calls[k][2], items(x, 3, form, 5), want[k]);
            }
        }
        SecondChances x = fill(new SecondChances(), 0, 0, 300, -300);
        x.sheet(1, 0, 60);
        due("bytes as they are", x.copy(0, 0, 1, 58, 2), 1);
        due("300", x.get(1, 0, 58), 44);
        due("-300", x.get(1, 0, 59), -44);
    }

    private static void writing() {
        says(35, "from item 0 on, as many as there are items and deeds: how many. BAD; NULL.");
        for (int form = 0; form < 3; form++) {
            SecondChances x = fair("p0d1A;p0r1A;p0d1A", "p1w");
            due("lost", x.write(0), NULL);
            due("no such sheet", x.write(4), -2);
            due("no such sheet", x.write(-1), -2);
            fill(x, 0, form);
            due("no items", x.write(0), 0);
            fill(x, 0, form, 9, 9);
            due("two items of three deeds", x.write(0), 2);
            same("hour 0, NONE", items(x, 0, form, 2), "0 -1");
            fill(x, 0, form, 9, 9, 9);
            due("three items of three deeds", x.write(0), 3);
            same("0, NONE, 1", items(x, 0, form, 3), "0 -1 1");
            fill(x, 0, form, 9, 9, 9, 9);
            due("four items of three deeds", x.write(0), 3);
            same("the fourth stays", items(x, 0, form, 4), "0 -1 1 9");
            x.wipe(0);
            due("no deeds", x.write(0), 0);
            same("all stays", items(x, 0, form, 4), "0 -1 1 9");
        }
        SecondChances x = fair(EIGHT, "p1");
        x.sheet(0, 0, 60);
        due("eight of 60", x.write(0), 8);
        same("each its hour", items(x, 0, 0, 9), "0 1 2 3 4 5 6 7 0");
        due("it is a plan", x.plan(0, 0), 1);
    }

    private static void counting() {
        says(36, "8 the number of the latest FINDING (0 before any). BAD.");
        SecondChances x = new SecondChances();
        due("before any", x.count(8), 0);
        x.sheet(0, 2, 1);
        x.sheet(1, 1, 1);
        due("NULL", x.lose(3), NULL);
        due("1", x.count(8), 1);
        due("INDEX", x.put(0, 2, 1, 0), INDEX);
        due("2", x.count(8), 2);
        due("CAST", x.put(0, 1, 0, 0), CAST);
        due("3", x.count(8), 3);
        due("STORE", x.copy(0, 0, 1, 0, 1), STORE);
        due("4", x.count(8), 4);
        due("SIZE", x.sheet(0, 0, -1), SIZE);
        due("5", x.count(8), 5);
        due("NULL", x.read(2), NULL);
        due("1", x.count(8), 1);
        x.sheet(0, 0, -1);
        due("NULL", x.write(2), NULL);
        due("1", x.count(8), 1);
        x.sheet(0, 0, -1);
        due("NULL", x.plan(2, 0), NULL);
        due("1", x.count(8), 1);
        due("what is refused otherwise is no finding", x.lose(4) + x.type(0, 256) + x.after(0, 0), -6);
        due("still 1", x.count(8), 1);
        due("count(9)", x.count(9), -2);
        due("count(-1)", x.count(-1), -2);

        says(36, "0 deeds, 1, 2 bytes of texts, 3 parts of RULES, 4 SIGHTINGS, 5 pairs, 6 WORTH of all deeds, 7 HOURS of rain");
        String all = "ABCDEFGH;p0d9";
        x = fair("p0d9" + all + all + all + all + "A;p0d9A;p0d9A;p0d9ABCDEF", "p0;p0;p0;p0;p0;p0;p0;p0;p0;p0;p0;p0;p0wh");
        for (int i = 0; i < 10; i++) {
            x.seen(0, 0, 0);
            x.after(0, 1);
            x.weather(i, 1);
        }
        int[] most = {8, 80, 40, 13, 10, 10, 72, 8};
        for (int what = 0; what < 8; what++) {
            due("count(" + what + ") of much", x.count(what), most[what]);
        }
    }

    private static void digests() {
        says(37, "as longs that wrap.");
        List<Long> told = new ArrayList<>();
        addAll(told, 0, 0, 0, 0, 0, 0, 0, 0, -1, -1);
        addAll(told, 0, 0, 0, 0, 0, 0, 0, 0, 0, 0, 0, 0);
        addAll(told, 0, 0, -1, -1, 0, 0, 0, -1, LONG_NOT, LONG_NOT);
        due("of a new one", new SecondChances().digest(), wrapped(told));

        says(37, "of each thing all that is told of it, then of the next one");
        SecondChances x = fair("p0r5AB;s3d2C", "p2wh;s1");
        x.seen(0, 0, 0);
        x.seen(0, 5, 1);
        x.seen(0, 0, 2);
        x.after(1, 0);
        x.weather(4, 1);
        x.person(2, 3, 4);
        x.lose(0);
        told.clear();
        addAll(told, 2, 12, 7, 2, 3, 1, 7, 1, -1, -1);
        addAll(told, 0, 0, 1, 5, 3, 16, -3, -3, LONG_NOT, LONG_NOT, 4, 0);
        addAll(told, 3, 3, 0, 2, 4, 255, 1, 6, 1, 1, 0, 5);
        addAll(told, 2, 1, 1, 0, 0, 0, 0, 0, 0, 1, 0, 0);
        addAll(told, 7, 3, 0, 4, 1, 1, 2, 1, 0, 1);
        due("of two deeds", x.digest(), wrapped(told));
        x.set(3, 7);
        told.set(30, 3L);
        told.set(31, 4L);
        due("with other odds", x.digest(), wrapped(told));
        due("twice", x.digest(), wrapped(told));
    }

    private static void addAll(List<Long> told, long... values) {
        for (long v : values) {
            told.add(v);
        }
    }

    /** Reckoned without any wrap, and only then cut to a long. */
    private static long wrapped(List<Long> told) {
        BigInteger h = BigInteger.valueOf(17);
        for (long v : told) {
            h = h.multiply(BigInteger.valueOf(31)).add(BigInteger.valueOf(v));
        }
        if (h.bitLength() < 64) {
            fail("nothing wraps here");
        }
        return h.longValue();
    }

    private static void lastCalls() {
        sentence = "An object is used for at most 512 calls after it has been made";
        if (!document.contains(sentence)) {
            fail("these words are not in the document");
        }
        SecondChances x = new SecondChances();
        int calls = 0;
        while (calls < 510) {
            x.weather(calls % 8, calls / 8 % 2);
            calls++;
        }
        due("call 511", x.count(7), 6);
        due("call 512", x.weather(5, 0), 1);
    }
}
