/**
 * Every refusal of every call, from a state in which all that can be full is full: the answer that
 * is due, and that nothing changed but, for a FINDING, count() 8.
 */
public final class RefusalsTest {
    private static final int BAD = -2, NOT = -3, FULL = -4;
    private static final int NULL = 1, INDEX = 2, CAST = 3, STORE = 4, SIZE = 5;
    private static final int LEAST = Integer.MIN_VALUE, GREATEST = Integer.MAX_VALUE;
    private static final String DEEDS =
        "p0r5ABCDE;r0d3BCDEF;t1d4ACDEF;s2r9AGHBC;p0d2DEFGH;r3r7ABCDH;t5d1EFGHA;s4d6ABCDEF";
    private static final String RULES = "p4wh;r4wh;t4wh;s4wh;p2wh;r1h;t3w;s1w;r2w";
    private static final int LOST = 3;
    private static final int[] SIZES = {4, 5, 60};

    private static int wrong;
    private static int refusals;

    private interface Act {
        long on(SecondChances x);
    }

    public static void main(String[] args) {
        texts();
        numbersOfThings();
        settings();
        theNight();
        crowdsAndOdds();
        hatsAndPairs();
        rows();
        items();
        copies();
        System.out.println(wrong == 0 ? refusals + " refusals change nothing" : wrong + " refusals are not as due");
        if (wrong != 0) {
            System.exit(1);
        }
    }

    private static void fail(String what) {
        wrong++;
        System.out.println(what);
    }

    /** Sheet s is of FORM s; the deed 0 CANNOT in HOUR 0; there is no room for anything more. */
    private static SecondChances crowded(int latest) {
        SecondChances x = new SecondChances();
        for (int i = 0; i < DEEDS.length(); i++) {
            x.type(0, DEEDS.charAt(i));
        }
        for (int i = 0; i < RULES.length(); i++) {
            x.type(1, RULES.charAt(i));
        }
        for (int i = 0; i < 10; i++) {
            x.seen(i % 3, i % 6, i / 2);
            x.after(i % 8, (i * 3 + 1) % 8 == i % 8 ? 0 : (i * 3 + 1) % 8);
        }
        for (int s = 0; s < LOST; s++) {
            x.sheet(s, s, SIZES[s]);
            x.put(s, s, 0, s);
            x.put(s, s, SIZES[s] - 1, 9 - s);
        }
        x.weather(1, 1);
        x.weather(5, 1);
        x.person(1, 0, 1);
        x.person(2, 1, 7);
        x.person(3, 2, 0);
        x.person(4, 3, 3);
        if (latest == NULL) {
            x.lose(LOST);
        } else {
            x.sheet(LOST, 0, -1);
        }
        return x;
    }

    /** All that can be seen of an object, but for count() 8; it takes the object apart. */
    private static String portrait(SecondChances x) {
        StringBuilder b = new StringBuilder();
        b.append(x.digest());
        for (int a = 1; a < 10; a++) {
            b.append(' ').append(x.isFalse(a - 1, a)).append(x.spared(a));
        }
        for (int s = 0; s < LOST; s++) {
            for (int i = 0; i < SIZES[s]; i++) {
                b.append(' ').append(x.get(s, s, i));
            }
        }
        for (int s = 0; s < 4; s++) {
            b.append(' ').append(x.lose(s));
        }
        for (int p = 0; p < 8; p++) {
            b.append(' ').append(x.weather(p, 0));
            for (int what = 0; what < 4; what++) {
                b.append(' ').append(x.person(p, what, 0)).append(' ').append(x.set(what, 0));
            }
        }
        return b.append(' ').append(x.wipe(0)).append(' ').append(x.wipe(1))
            .append(' ').append(x.forget(0)).append(' ').append(x.forget(1)).toString();
    }

    private static final String UNTOUCHED = portrait(crowded(SIZE));

    private static void refused(String call, Act act, long want, int found) {
        refusals++;
        int latest = found == SIZE ? NULL : SIZE;
        SecondChances x = crowded(latest);
        long got = act.on(x);
        if (got != want) {
            fail(call + " answered " + got + ", due is " + want);
        }
        int told = x.count(8);
        if (told != (found == 0 ? latest : found)) {
            fail(call + ": the latest finding is " + told);
        }
        if (!portrait(x).equals(UNTOUCHED)) {
            fail(call + " changed something");
        }
    }

    private static void refused(String call, Act act, int want) {
        refused(call, act, want, 0);
    }

    private static void found(String call, Act act, int finding) {
        refused(call, act, -10 - finding, finding);
    }

    private static void refusedLong(String call, Act act, int want) {
        refused(call, act, Long.MIN_VALUE - want, 0);
    }

    /** Numbers below 0 and above the most. */
    private static int[] off(int most) {
        return new int[] {LEAST, LEAST + 1, -256, -8, -2, -1, most + 1, most + 2, most + 256, GREATEST - 1, GREATEST};
    }

    private static void texts() {
        for (int text : off(1)) {
            refused("type(" + text + ", 65)", x -> x.type(text, 65), BAD);
            refused("type(" + text + ", 256)", x -> x.type(text, 256), BAD);
            refused("wipe(" + text + ")", x -> x.wipe(text), BAD);
            refused("fault(" + text + ")", x -> x.fault(text), BAD);
        }
        for (int b : off(255)) {
            refused("type(0, " + b + ")", x -> x.type(0, b), BAD);
            refused("type(1, " + b + ")", x -> x.type(1, b), BAD);
        }
        for (int b : new int[] {0, ';', 'G', 'h', 'x', 255}) {
            refused("type(0, " + b + ")", x -> x.type(0, b), FULL);
            refused("type(1, " + b + ")", x -> x.type(1, b), FULL);
        }
    }

    private static void numbersOfThings() {
        for (int v : off(7)) {
            refused("deed(" + v + ", 0)", x -> x.deed(v, 0), BAD);
            refused("hours(" + v + ")", x -> x.hours(v), BAD);
            refused("when(" + v + ")", x -> x.when(v), BAD);
        }
        for (int v : off(4)) {
            refused("deed(0, " + v + ")", x -> x.deed(0, v), BAD);
        }
        for (int v : off(3)) {
            refused("rule(" + v + ", 0)", x -> x.rule(v, 0), BAD);
        }
        for (int v : off(2)) {
            refused("rule(0, " + v + ")", x -> x.rule(0, v), BAD);
            refused("crowd(" + v + ")", x -> x.crowd(v), BAD);
        }
        for (int v : off(1)) {
            refused("most(" + v + ")", x -> x.most(v), BAD);
        }
        for (int v : off(8)) {
            refused("count(" + v + ")", x -> x.count(v), BAD);
        }
        for (int v : off(255)) {
            refused("spared(" + v + ")", x -> x.spared(v), BAD);
        }
    }

    private static void settings() {
        int[] traits = {7, 8, 99, 16};
        int[] most = {99, 1, 999, 10};
        for (int what = 0; what < 4; what++) {
            int which = what;
            for (int v : off(traits[what])) {
                refused("person(0, " + which + ", " + v + ")", x -> x.person(0, which, v), BAD);
            }
            for (int v : off(7)) {
                refused("person(" + v + ", " + which + ", 0)", x -> x.person(v, which, 0), BAD);
            }
            for (int v : off(most[what])) {
                refused("set(" + which + ", " + v + ")", x -> x.set(which, v), BAD);
            }
        }
        for (int v : off(3)) {
            refused("person(0, " + v + ", 0)", x -> x.person(0, v, 0), BAD);
            refused("set(" + v + ", 0)", x -> x.set(v, 0), BAD);
            refused("read(" + v + ")", x -> x.read(v), BAD);
        }
        for (int v : off(7)) {
            refused("weather(" + v + ", 1)", x -> x.weather(v, 1), BAD);
        }
        for (int v : off(1)) {
            refused("weather(0, " + v + ")", x -> x.weather(0, v), BAD);
        }
        found("read(3)", x -> x.read(LOST), NULL);
    }

    private static void theNight() {
        for (int v : off(7)) {
            for (int good : new int[] {0, 1, 7}) {
                refused("can(" + v + ", " + good + ")", x -> x.can(v, good), BAD);
                refused("can(" + good + ", " + v + ")", x -> x.can(good, v), BAD);
                refused("comes(" + v + ", " + good + ")", x -> x.comes(v, good), BAD);
                refused("comes(" + good + ", " + v + ")", x -> x.comes(good, v), BAD);
                refused("costs(" + v + ", " + good + ")", x -> x.costs(v, good), BAD);
                refused("costs(" + good + ", " + v + ")", x -> x.costs(good, v), BAD);
            }
        }
        refused("comes(0, 0)", x -> x.comes(0, 0), NOT);
        refused("costs(0, 0)", x -> x.costs(0, 0), NOT);
        for (int v : off(3)) {
            refused("plan(" + v + ", 0)", x -> x.plan(v, 0), BAD);
        }
        for (int v : off(2)) {
            refused("plan(2, " + v + ")", x -> x.plan(2, v), BAD);
            refused("plan(0, " + v + ") of too few items", x -> x.plan(0, v), BAD);
            refused("plan(3, " + v + ") of a lost one", x -> x.plan(LOST, v), BAD);
        }
        for (int what = 0; what < 3; what++) {
            int which = what;
            found("plan(3, " + what + ")", x -> x.plan(LOST, which), NULL);
            refused("plan(0, " + what + ")", x -> x.plan(0, which), NOT);
            refused("plan(1, " + what + ")", x -> x.plan(1, which), NOT);
        }
        refused("plan(2, 1)", x -> x.plan(2, 1), NOT);
        refused("plan(2, 2)", x -> x.plan(2, 2), NOT);
    }

    private static void crowdsAndOdds() {
        for (int v : off(7)) {
            for (int good : new int[] {0, 1, 7}) {
                refused("asked(" + v + ", " + good + ")", x -> x.asked(v, good), BAD);
                refused("asked(" + good + ", " + v + ")", x -> x.asked(good, v), BAD);
                refused("likeness(" + v + ", " + good + ")", x -> x.likeness(v, good), BAD);
                refused("likeness(" + good + ", " + v + ")", x -> x.likeness(good, v), BAD);
                refusedLong("odds(" + v + ", " + good + ", 0)", x -> x.odds(v, good, 0), BAD);
                refusedLong("odds(" + good + ", " + v + ", 1)", x -> x.odds(good, v, 1), BAD);
            }
        }
        for (int v : off(1)) {
            refusedLong("odds(0, 1, " + v + ")", x -> x.odds(0, 1, v), BAD);
            refusedLong("odds(0, 0, " + v + ") where it cannot", x -> x.odds(0, 0, v), BAD);
            refusedLong("regrets(2, " + v + ")", x -> x.regrets(2, v), BAD);
        }
        for (int v : off(8)) {
            refusedLong("regrets(" + v + ", 0)", x -> x.regrets(v, 0), BAD);
            refusedLong("regrets(" + v + ", 1)", x -> x.regrets(v, 1), BAD);
        }
        refused("likeness(0, 0)", x -> x.likeness(0, 0), NOT);
        refusedLong("odds(0, 0, 0)", x -> x.odds(0, 0, 0), NOT);
        refusedLong("odds(0, 0, 1)", x -> x.odds(0, 0, 1), NOT);
    }

    private static void hatsAndPairs() {
        for (int v : off(7)) {
            refused("seen(" + v + ", 0, 0)", x -> x.seen(v, 0, 0), BAD);
            refused("seen(0, 0, " + v + ")", x -> x.seen(0, 0, v), BAD);
            refused("after(" + v + ", 0)", x -> x.after(v, 0), BAD);
            refused("after(0, " + v + ")", x -> x.after(0, v), BAD);
            refused("after(" + v + ", " + v + ")", x -> x.after(v, v), BAD);
        }
        for (int v : off(5)) {
            refused("seen(0, " + v + ", 0)", x -> x.seen(0, v, 0), BAD);
        }
        for (int v : off(9)) {
            refused("isFalse(" + v + ", 0)", x -> x.isFalse(v, 0), BAD);
            refused("isFalse(0, " + v + ")", x -> x.isFalse(0, v), BAD);
        }
        for (int v = 0; v < 10; v++) {
            int one = v;
            refused("isFalse(" + v + ", " + v + ")", x -> x.isFalse(one, one), BAD);
        }
        for (int v = 0; v < 8; v++) {
            int one = v;
            refused("after(" + v + ", " + v + ")", x -> x.after(one, one), BAD);
            refused("after(" + v + ", another)", x -> x.after(one, 7 - one), FULL);
            refused("seen(" + v + ", 0, " + v + ")", x -> x.seen(one, 0, one), FULL);
        }
        for (int v : off(1)) {
            refused("hats(" + v + ")", x -> x.hats(v), BAD);
            refused("forget(" + v + ")", x -> x.forget(v), BAD);
        }
    }

    private static void rows() {
        for (int v : off(3)) {
            for (int n : new int[] {LEAST, -1, 0, 1, 60, 61}) {
                refused("sheet(" + v + ", 0, " + n + ")", x -> x.sheet(v, 0, n), BAD);
            }
            refused("lose(" + v + ")", x -> x.lose(v), BAD);
            refused("write(" + v + ")", x -> x.write(v), BAD);
        }
        for (int v : off(2)) {
            for (int n : new int[] {LEAST, -1, 0, 1, 60, 61}) {
                refused("sheet(0, " + v + ", " + n + ")", x -> x.sheet(0, v, n), BAD);
            }
        }
        for (int s = 0; s < 4; s++) {
            int which = s;
            for (int n : new int[] {61, 62, 255, 65536, GREATEST}) {
                refused("sheet(" + s + ", 2, " + n + ")", x -> x.sheet(which, 2, n), BAD);
            }
            for (int n : new int[] {LEAST, -65536, -60, -1}) {
                found("sheet(" + s + ", 2, " + n + ")", x -> x.sheet(which, 2, n), SIZE);
            }
        }
        found("lose(3)", x -> x.lose(LOST), NULL);
        found("write(3)", x -> x.write(LOST), NULL);
    }

    private static void items() {
        for (int v : off(3)) {
            item(v, 0, 0, BAD);
            item(v, 3, 99, BAD);
        }
        for (int v : off(2)) {
            item(0, v, 0, BAD);
            item(0, v, 99, BAD);
            item(LOST, v, 0, BAD);
        }
        for (int form = 0; form < 3; form++) {
            for (int i : new int[] {LEAST, -1, 0, 1, 59, 60, GREATEST}) {
                item(LOST, form, i, NULL);
                item((form + 1) % 3, form, i, CAST);
                item((form + 2) % 3, form, i, CAST);
            }
            for (int i : off(SIZES[form] - 1)) {
                item(form, form, i, INDEX);
            }
        }
    }

    private static void item(int s, int form, int i, int why) {
        String where = "(" + s + ", " + form + ", " + i;
        refused("put" + where + ", 77)", x -> x.put(s, form, i, 77), why == BAD ? BAD : -10 - why, why == BAD ? 0 : why);
        refused("get" + where + ")", x -> x.get(s, form, i), LEAST, why == BAD ? 0 : why);
    }

    private static void copies() {
        for (int v : off(3)) {
            copy(v, 0, 0, 0, 1, BAD);
            copy(0, 0, v, 0, 1, BAD);
            copy(v, 0, LOST, 0, 1, BAD);
            copy(LOST, -1, v, -1, -1, BAD);
        }
        for (int s = 0; s < 3; s++) {
            copy(s, 0, LOST, 0, 0, NULL);
            copy(LOST, 0, s, 0, 0, NULL);
            copy(s, -1, LOST, 61, GREATEST, NULL);
            copy(s, 0, (s + 1) % 3, 0, 0, STORE);
            copy(s, -1, (s + 2) % 3, 61, LEAST, STORE);
            for (int v : off(SIZES[s])) {
                copy(s, v, s, 0, 0, INDEX);
                copy(s, 0, s, v, 0, INDEX);
                copy(s, 0, s, 0, v, INDEX);
                copy(s, v, s, v, v, INDEX);
            }
            copy(s, SIZES[s], s, 0, 1, INDEX);
            copy(s, 0, s, SIZES[s], 1, INDEX);
            copy(s, 1, s, 0, SIZES[s], INDEX);
            copy(s, 0, s, 1, SIZES[s], INDEX);
        }
        copy(LOST, 0, LOST, 0, 0, NULL);
    }

    private static void copy(int s, int i, int t, int j, int n, int why) {
        refused("copy(" + s + ", " + i + ", " + t + ", " + j + ", " + n + ")", x -> x.copy(s, i, t, j, n),
            why == BAD ? BAD : -10 - why, why == BAD ? 0 : why);
    }
}
