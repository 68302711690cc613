/** Each promise of the document by itself. */
public final class PromisesTest {
    private static final int NULL = -11, INDEX = -12, CAST = -13, STORE = -14, SIZE = -15;
    private static final int LEAST = Integer.MIN_VALUE, GREATEST = Integer.MAX_VALUE;
    private static final long LONG_BAD = Long.MIN_VALUE + 2, LONG_NOT = Long.MIN_VALUE + 3;
    private static final String FIVE = "p0r5AB;r0d3BC;t1d4ACD;s2r9A;p0d2DEF";
    private static final String FIVE_RULES = "p2wh;r1h;t3;s1w";

    private static int wrong;
    private static int promise;

    private static void due(String call, long got, long want) {
        if (got != want) {
            wrong++;
            System.out.println("promise " + promise + ": " + call + " answered " + got + ", due is " + want);
        }
    }

    private static SecondChances fair(String deeds, String rules) {
        SecondChances x = new SecondChances();
        typeAll(x, 0, deeds);
        typeAll(x, 1, rules);
        return x;
    }

    private static int typeAll(SecondChances x, int text, String signs) {
        int last = 0;
        for (int i = 0; i < signs.length(); i++) {
            last = x.type(text, signs.charAt(i));
        }
        return last;
    }

    private static int faultOf(int text, String signs) {
        SecondChances x = new SecondChances();
        typeAll(x, text, signs);
        return x.fault(text);
    }

    private static int fill(SecondChances x, int s, int form, int... items) {
        int n = x.sheet(s, form, items.length);
        for (int i = 0; i < items.length; i++) {
            x.put(s, form, i, items[i]);
        }
        return n;
    }

    public static void main(String[] args) {
        newObject();
        texts();
        faults();
        deedsAndRules();
        settings();
        reading();
        canAndHours();
        comesAndCosts();
        most();
        purse();
        plans();
        crowds();
        likenessAndOdds();
        sightings();
        pairs();
        regrets();
        sheets();
        copies();
        writing();
        counts();
        digests();
        refusalsChangeNothing();
        System.out.println(wrong == 0 ? "all promises hold" : wrong + " answers are not as due");
        if (wrong != 0) {
            System.exit(1);
        }
    }

    private static void newObject() {
        promise = 1;
        SecondChances x = new SecondChances();
        for (int what = 0; what <= 8; what++) {
            due("count " + what, x.count(what), 0);
        }
        for (int s = 0; s < 4; s++) {
            due("lose " + s, x.lose(s), NULL);
        }
        due("fault 0", x.fault(0), -1);
        due("fault 1", x.fault(1), -1);
        due("best", x.best(), -1);
        for (int p = 0; p < 8; p++) {
            due("from", x.person(p, 0, 1), 0);
            due("up to", x.person(p, 1, 1), 8);
            due("price", x.person(p, 2, 2), 1);
            due("memory", x.person(p, 3, 1), 16);
            due("weather", x.weather(p, 1), 0);
        }
        due("rain", x.set(0, 1), 9);
        due("made", x.set(1, 1), 0);
        due("purse", x.set(2, 1), 999);
        due("enough", x.set(3, 1), 6);
    }

    private static void texts() {
        promise = 2;
        SecondChances x = new SecondChances();
        due("type(-1, 1)", x.type(-1, 1), -2);
        due("type(2, 1)", x.type(2, 1), -2);
        due("type(0, -1)", x.type(0, -1), -2);
        due("type(0, 256)", x.type(0, 256), -2);
        due("type(0, 0)", x.type(0, 0), 1);
        due("type(0, 255)", x.type(0, 255), 2);
        for (int n = 3; n <= 80; n++) {
            due("type(0, 65) " + n, x.type(0, 65), n);
        }
        due("an 81st byte", x.type(0, 65), -4);
        due("BAD ahead of FULL", x.type(0, 256), -2);
        for (int n = 1; n <= 40; n++) {
            due("type(1, 65) " + n, x.type(1, 65), n);
        }
        due("a 41st byte", x.type(1, 65), -4);
        due("bytes stay", x.count(1) * 100 + x.count(2), 8040);

        promise = 3;
        due("wipe(-1)", x.wipe(-1), -2);
        due("wipe(2)", x.wipe(2), -2);
        due("wipe(0)", x.wipe(0), 80);
        due("an empty one is well", x.fault(0), -1);
        due("wipe(0) again", x.wipe(0), 0);
        due("the other one stays", x.wipe(1), 40);
        due("and is well then", x.fault(1), -1);
        due("and begins anew", typeAll(x, 0, "p0d1A"), 5);
        due("without a fault", x.fault(0), -1);
        due("with a deed", x.count(0), 1);
        x = fair("p0d1ABC", "p3wh;r2");
        x.wipe(1);
        due("a wiped rule needs nobody", x.rule(0, 0) + x.rule(0, 1) + x.rule(0, 2) + x.rule(1, 0), 0);
        x.wipe(0);
        typeAll(x, 0, "p0d1A");
        due("nobody of before is there", x.deed(0, 4), 1);
    }

    private static void faults() {
        promise = 4;
        due("fault(-1)", new SecondChances().fault(-1), -2);
        due("fault(2)", new SecondChances().fault(2), -2);
        String[] deeds = {"", "p", "p0", "p0r", "p0r1", "x", "P0r1A", "p6r1A", "p0w1A", "p0r0A", "p0r9A",
            "p0r1I", "p0r1a", "p0r1;", "p0r1AA", "p0r1ABCDEFGH", "p0r1ABCDEFGHA", "p0r1A;", "p0r1A;;", "p0r1A;s5d9H",
            "p0r1A;s5d9HxA", ";", "p0r1 A", "t3d2BA"};
        int[] at = {-1, 1, 2, 3, 4, 0, 0, 1, 2, 3, -1, 4, 4, 4, 5, -1, 12, 6, 6, -1, 11, 0, 4, -1};
        for (int i = 0; i < deeds.length; i++) {
            due("of deeds " + deeds[i], faultOf(0, deeds[i]), at[i]);
        }
        String eight = "p0d1A;p0d1A;p0d1A;p0d1A;p0d1A;p0d1A;p0d1A;p0d1A";
        due("eight deeds", faultOf(0, eight), -1);
        due("eight deeds and ;", faultOf(0, eight + ";"), 48);
        due("a ninth deed", faultOf(0, eight + ";p0d1A"), 48);
        due("80 bytes not ended", faultOf(0, "p0d1ABCDEFGH;p0d1ABCDEFGH;p0d1ABCDEFGH;p0d1ABCDEFGH;p0d1ABCDEFGH;p0d1ABCDEFGH;p0"), 80);
        String[] rules = {"", "p", "p0", "p4", "p5", "q1", "p1w", "p1h", "p1wh", "p1hw", "p1ww", "p1hh", "p1wh;", "p1wh;r2",
            "p1;;", "pp", "p1whx", "p0;p0;p0;p0;p0;p0;p0;p0;p0;p0;p0;p0;p0", "p0;p0;p0;p0;p0;p0;p0;p0;p0;p0;p0;p0;p0;"};
        int[] ruleAt = {-1, 1, -1, -1, 1, 0, -1, -1, -1, 3, 3, 3, 5, -1, 3, 1, 4, -1, 39};
        for (int i = 0; i < rules.length; i++) {
            due("of rules " + rules[i], faultOf(1, rules[i]), ruleAt[i]);
        }
        due("40 bytes, not ended", faultOf(1, "p0;p0;p0;p0;p0;p0;p0;p0;p0;p0;p0;p0;p0;p"), 40);

        SecondChances x = fair("p0d1A;r1r2B", "p1w;r2h");
        x.type(0, ';');
        x.type(1, ';');
        due("with a fault there is no deed", x.count(0), 0);
        due("nor worth", x.count(6), 0);
        due("nor a rule", x.count(3) + x.rule(0, 0) + x.rule(0, 1) + x.rule(1, 2), 0);
        typeAll(x, 0, "t0d3C");
        typeAll(x, 1, "p0");
        due("and it mends", x.count(0), 3);
        due("and it mends", x.count(3) * 100 + x.rule(1, 0) * 10 + x.rule(1, 2), 321);
    }

    private static void deedsAndRules() {
        promise = 5;
        SecondChances x = fair("p0r1A;r5d9HGA;t2d5B;s3r4ABCDEFGH", "");
        int[][] deeds = {{0, 0, 1, 1, 1}, {1, 5, 0, 9, 193}, {2, 2, 0, 5, 2}, {3, 3, 1, 4, 255}};
        for (int d = 0; d < 4; d++) {
            for (int what = 0; what < 5; what++) {
                due("deed(" + d + ", " + what + ")", x.deed(d, what), deeds[d][what]);
            }
        }
        due("deed(4, 0)", x.deed(4, 0), -2);
        due("deed(-1, 0)", x.deed(-1, 0), -2);
        due("deed(0, -1)", x.deed(0, -1), -2);
        due("deed(0, 5)", x.deed(0, 5), -2);
        due("of least ints", x.deed(LEAST, LEAST), -2);
        due("of greatest ints", x.deed(GREATEST, GREATEST), -2);

        promise = 6;
        x = fair("", "p1w;r2h;t4wh;s0;r3;p2");
        int[][] rules = {{2, 0, 0}, {3, 0, 0}, {4, 1, 1}, {0, 0, 0}};
        for (int k = 0; k < 4; k++) {
            for (int what = 0; what < 3; what++) {
                due("rule(" + k + ", " + what + ")", x.rule(k, what), rules[k][what]);
            }
        }
        due("rule(-1, 0)", x.rule(-1, 0), -2);
        due("rule(4, 0)", x.rule(4, 0), -2);
        due("rule(0, -1)", x.rule(0, -1), -2);
        due("rule(0, 3)", x.rule(0, 3), -2);
        due("a kind without a rule", fair("", "s1").rule(0, 0), 0);
    }

    private static void settings() {
        promise = 7;
        SecondChances x = new SecondChances();
        int[] most = {7, 8, 99, 16};
        int[] first = {0, 8, 1, 16};
        for (int what = 0; what < 4; what++) {
            due("v above", x.person(7, what, most[what] + 1), -2);
            due("v below", x.person(7, what, -1), -2);
            due("greatest v", x.person(7, what, most[what]), first[what]);
            due("least v", x.person(7, what, 0), most[what]);
            due("then", x.person(7, what, 1), 0);
        }
        due("person(8, 0, 0)", x.person(8, 0, 0), -2);
        due("person(-1, 0, 0)", x.person(-1, 0, 0), -2);
        due("person(0, 4, 0)", x.person(0, 4, 0), -2);
        due("person(0, -1, 0)", x.person(0, -1, 0), -2);

        promise = 8;
        due("weather(7, 1)", x.weather(7, 1), 0);
        due("weather(7, 1)", x.weather(7, 1), 1);
        due("weather(7, 0)", x.weather(7, 0), 1);
        due("weather(8, 0)", x.weather(8, 0), -2);
        due("weather(-1, 0)", x.weather(-1, 0), -2);
        due("weather(0, 2)", x.weather(0, 2), -2);
        due("weather(0, -1)", x.weather(0, -1), -2);

        promise = 9;
        int[] settingMost = {99, 1, 999, 10};
        int[] settingFirst = {9, 0, 999, 6};
        for (int what = 0; what < 4; what++) {
            due("v above", x.set(what, settingMost[what] + 1), -2);
            due("v below", x.set(what, -1), -2);
            due("greatest v", x.set(what, settingMost[what]), settingFirst[what]);
            due("least v", x.set(what, 0), settingMost[what]);
            due("then", x.set(what, 0), 0);
        }
        due("set(4, 0)", x.set(4, 0), -2);
        due("set(-1, 0)", x.set(-1, 0), -2);
    }

    private static void reading() {
        promise = 10;
        SecondChances x = new SecondChances();
        due("read(-1)", x.read(-1), -2);
        due("read(4)", x.read(4), -2);
        due("read(0)", x.read(0), NULL);
        due("told", x.count(8), 1);
        fill(x, 0, 2, 1, 0, 1, 2, 1);
        x.weather(1, 1);
        x.weather(3, 1);
        due("up to a 2", x.read(0), 3);
        due("hour 0", x.weather(0, 0), 1);
        due("hour 1", x.weather(1, 0), 0);
        due("hour 2", x.weather(2, 0), 1);
        due("hour 3 stays", x.weather(3, 0), 1);
        due("hour 4 stays", x.weather(4, 0), 0);
        fill(x, 1, 1, 1, 1, 1, 1, 1, 1, 1, 1, 1, 1);
        due("eight at most", x.read(1), 8);
        due("all", x.count(7), 8);
        fill(x, 2, 0);
        due("an empty one", x.read(2), 0);
        fill(x, 2, 0, -1);
        due("below 0", x.read(2), 0);
        due("all stay", x.count(7), 8);
    }

    private static void canAndHours() {
        promise = 11;
        SecondChances x = fair("p0r5AB;r0d3B;t1d4ABCD", "p2w;r4;t3");
        due("can(3, 0)", x.can(3, 0), -2);
        due("can(-1, 0)", x.can(-1, 0), -2);
        due("can(0, 8)", x.can(0, 8), -2);
        due("can(0, -1)", x.can(0, -1), -2);
        due("other weather", x.can(0, 2), 0);
        x.weather(2, 1);
        due("like weather", x.can(0, 2), 1);
        due("a dry hour stays", x.can(0, 3), 0);
        due("fewer there than the rule tells", x.can(1, 0), 1);
        x.person(1, 0, 2);
        x.person(1, 1, 3);
        due("ahead of one's hours", x.can(0, 1), 0);
        due("in one's hour", x.can(0, 2), 1);
        due("three of four without one", x.can(2, 0), 1);
        x.person(0, 1, 1);
        due("at the end of another's hours", x.can(2, 1), 0);
        due("before it", x.can(2, 0), 1);

        promise = 12;
        due("hours(-1)", x.hours(-1), -2);
        due("hours(3)", x.hours(3), -2);
        due("hours(0)", x.hours(0), 0);
        due("hours(1)", x.hours(1), 4);
        due("hours(2)", x.hours(2), 5);
        x = fair("p0r5AB", "p2w");
        due("dry all night", x.hours(0), 0);
        x.set(1, 1);
        due("rain can be made", x.hours(0), 255);
        x.person(0, 0, 5);
        due("but nobody", x.hours(0), 224);
        x.person(0, 1, 5);
        due("from and up to one hour", x.hours(0), 0);
        x = fair("p0r5AB", "");
        for (int p = 0; p < 8; p++) {
            x.person(p, 1, 0);
        }
        due("a kind without a rule needs nobody", x.hours(0), 255);
    }

    private static void comesAndCosts() {
        promise = 13;
        SecondChances x = fair("p0r5ABCD;t1d2EF", "p2w;t4");
        due("comes(2, 0)", x.comes(2, 0), -2);
        due("comes(0, 8)", x.comes(0, 8), -2);
        due("comes(-1, 0)", x.comes(-1, 0), -2);
        due("comes(0, -1)", x.comes(0, -1), -2);
        due("it cannot", x.comes(0, 0), -3);
        x.weather(0, 1);
        due("like prices, least numbers", x.comes(0, 0), 3);
        x.person(0, 2, 5);
        due("A is dear", x.comes(0, 0), 6);
        x.person(3, 2, 0);
        due("D comes for nothing", x.comes(0, 0), 10);
        x.person(1, 0, 1);
        due("B is not there", x.comes(0, 0), 12);
        due("all who were there", x.comes(1, 0), 48);
        due("who can be there is not all who come", fair("p0d1AB", "").comes(0, 0), 0);

        promise = 14;
        due("costs(2, 0)", x.costs(2, 0), -2);
        due("costs(0, 8)", x.costs(0, 8), -2);
        due("costs(-1, 0)", x.costs(-1, 0), -2);
        due("costs(0, -1)", x.costs(0, -1), -2);
        due("it cannot", x.costs(0, 1), -3);
        due("C and D", x.costs(0, 0), 1);
        x.set(1, 1);
        due("not turned", x.costs(0, 0), 1);
        due("turned: B, D and rain", x.costs(0, 1), 10);
        x.set(0, 99);
        due("dearer rain", x.costs(0, 1), 100);
        due("no rule for weather, no rain", x.costs(1, 0), 2);
        x.person(4, 2, 99);
        due("a dear one", x.costs(1, 0), 100);
    }

    private static void most() {
        promise = 15;
        SecondChances x = fair(FIVE, FIVE_RULES);
        due("most(-1)", x.most(-1), -2);
        due("most(2)", x.most(2), -2);
        due("worth", x.most(0), 9);
        due("cost", x.most(1), 6);
        x.weather(1, 1);
        x.weather(2, 1);
        due("worth with rain", x.most(0), 23);
        due("cost with rain", x.most(1), 9);

        promise = 16;
        due("when(5)", x.when(5), -2);
        due("when(-1)", x.when(-1), -2);
        int[] row = {1, 0, 0, 2, 3};
        for (int d = 0; d < 5; d++) {
            due("when(" + d + ")", x.when(d), row[d]);
        }
        x = fair("p0d5A;p0d5A;p0d6B", "p0h");
        x.person(0, 1, 0);
        due("one place", x.most(0), 16);
        due("an hour each", x.when(0) * 100 + x.when(1) * 10 + x.when(2), 12);
        x = fair("p0d5A;p1r5B", "p1w");
        x.set(1, 1);
        x.set(0, 3);
        due("unlike weather, turned once", x.most(1), 5);
        due("in two hours", x.when(0) * 10 + x.when(1), 1);
        x = fair("p0r5A;p1r5B;p2r5C", "p1w");
        x.set(1, 1);
        due("rain is paid once for an hour", x.most(1), 12);
        due("all in it", x.when(0) + x.when(1) + x.when(2), 0);
        x.weather(7, 1);
        due("a rainy hour costs nothing", x.most(1), 3);
        due("at its end", x.when(0) * 100 + x.when(1) * 10 + x.when(2), 777);
        x = fair("p0d5A;r0d5A", "p1;r1");
        x.person(0, 1, 1);
        due("one hour, one of two", x.most(0), 5);
        due("none is ahead of hour 0", x.when(0), -1);
        due("so the other one is done", x.when(1), 0);
        x = fair("p0d5AB;r0d5AC", "p2;r2");
        x.person(0, 1, 1);
        x.person(2, 2, 3);
        due("of like worth the cheapest: the first", x.most(1) * 100 + x.when(0) * 10 + x.when(1), 199);
        x.person(1, 2, 5);
        due("of like worth the cheapest: the last", x.most(1) * 100 + x.when(0) * 10 + x.when(1), 390);
        eightDeeds();
    }

    private static void eightDeeds() {
        SecondChances x = fair("p0d1A;p0d2A;p0d3A;p0d4A;p0d5A;p0d6A;p0d7A;p0d8A", "p1");
        due("an hour for each of eight", x.most(0) * 100 + x.most(1), 3608);
        for (int d = 0; d < 8; d++) {
            due("when(" + d + ")", x.when(d), d);
        }
        x.person(0, 1, 6);
        due("six hours: the worthiest six", x.most(0) * 100 + x.most(1), 3306);
        for (int d = 0; d < 8; d++) {
            due("when(" + d + ")", x.when(d), d < 2 ? -1 : d - 2);
        }
        x.wipe(1);
        due("nobody is needed", x.most(0) * 100 + x.most(1), 3600);
        for (int d = 0; d < 8; d++) {
            due("when(" + d + ")", x.when(d), 0);
        }
        fill(x, 0, 0, 7, 7, 7, 7, 7, 7, 7, 7, 9);
        due("a plan of eight", x.plan(0, 0) * 100 + x.plan(0, 1), 136);
        fill(x, 0, 0, 7, 7, 7, 7, 7, 7, 7, 9);
        due("the eighth is off", x.plan(0, 0), 0);
    }

    private static void purse() {
        promise = 15;
        SecondChances x = fair("p0d9AB;r0d5C;t0d4D", "p2;r1;t1");
        x.person(0, 2, 50);
        x.person(2, 2, 20);
        x.person(3, 2, 30);
        due("all", x.most(0) * 1000 + x.most(1), 18101);
        x.set(2, 101);
        due("a purse just large enough", x.most(0) * 1000 + x.most(1), 18101);
        x.set(2, 100);
        due("a bit less", x.most(0) * 1000 + x.most(1), 14071);
        x.set(2, 70);
        due("less", x.most(0) * 1000 + x.most(1), 9050);
        x.person(0, 2, 49);
        due("of like worth the cheapest", x.most(0) * 1000 + x.most(1), 14070);
        x.set(2, 0);
        due("nothing", x.most(0) * 1000 + x.most(1), 0);
        due("none", x.when(0) + x.when(1) + x.when(2), -3);
        x.wipe(1);
        due("without rules all is free", x.most(0) * 1000 + x.most(1), 18000);
    }

    private static void plans() {
        promise = 17;
        SecondChances x = fair("p0r5A;p1r4B;r1d3A;p0d2C", "p1wh;r1");
        due("plan(-1, 0)", x.plan(-1, 0), -2);
        due("plan(4, 0)", x.plan(4, 0), -2);
        due("plan(0, 3)", x.plan(0, 3), -2);
        due("plan(0, -1)", x.plan(0, -1), -2);
        due("plan(0, 0)", x.plan(0, 0), NULL);
        fill(x, 0, 2, -1, -1, -1);
        due("too few items", x.plan(0, 0), -3);
        fill(x, 0, 0, -1, -1, -1, -1, 77);
        due("nothing at all", x.plan(0, 0) * 100 + x.plan(0, 1) * 10 + x.plan(0, 2), 100);
        fill(x, 0, 1, 0, -1, -1, -1);
        due("dry", x.plan(0, 0), 0);
        due("no worth", x.plan(0, 1), -3);
        due("no cost", x.plan(0, 2), -3);
        x.set(1, 1);
        x.set(2, 0);
        fill(x, 0, 2, 0, 0, 1, 2);
        due("whatever the purse", x.plan(0, 0), 1);
        due("its worth", x.plan(0, 1), 14);
        due("rain once", x.plan(0, 2), 13);
        fill(x, 0, 2, 0, 3, 1, 2);
        due("rain twice", x.plan(0, 2), 22);
        fill(x, 0, 2, 0, 0, 0, 2);
        due("A at two deeds", x.plan(0, 0), 0);
        fill(x, 0, 2, 0, -1, 1, 0);
        due("weather that was unlike", x.plan(0, 0), 0);
        fill(x, 0, 2, 8, -1, -1, -1);
        due("no such hour", x.plan(0, 0), 0);
        fill(x, 0, 2, -2, -1, -1, -1);
        due("no such none", x.plan(0, 0), 0);
        fill(x, 0, 2, GREATEST, LEAST, -1, -1);
        due("ends of ints", x.plan(0, 0), 0);
        x = fair("p3r5A;p3r4B", "p1h");
        fill(x, 0, 2, 4, 4);
        due("one place", x.plan(0, 0), 0);
        x.wipe(1);
        typeAll(x, 1, "p1");
        due("unless nobody asks for it", x.plan(0, 0), 1);
        x.wipe(0);
        due("no deeds", x.plan(0, 0), 1);
        due("no worth, no cost", x.plan(0, 1) + x.plan(0, 2), 0);
    }

    private static void crowds() {
        promise = 18;
        SecondChances x = fair("p0r5AB;r0d3BC;t1d4BCD", "p1w;r1;t3");
        due("asked(8, 0)", x.asked(8, 0), -2);
        due("asked(-1, 0)", x.asked(-1, 0), -2);
        due("asked(0, 8)", x.asked(0, 8), -2);
        due("asked(0, -1)", x.asked(0, -1), -2);
        due("it cannot", x.asked(0, 0), 0);
        due("B by two", x.asked(1, 0), 2);
        due("C by one", x.asked(2, 0), 1);
        x.weather(6, 1);
        due("A in the rain", x.asked(0, 6), 1);
        due("H by nobody", x.asked(7, 6), 0);

        promise = 19;
        due("crowd(-1)", x.crowd(-1), -2);
        due("crowd(3)", x.crowd(3), -2);
        due("who", x.crowd(0), 1);
        due("when", x.crowd(1), 0);
        due("how many", x.crowd(2), 2);
        x.person(0, 2, 2);
        due("B in the rain too", x.crowd(0) * 100 + x.crowd(1) * 10 + x.crowd(2), 163);
        x.wipe(1);
        due("nobody", x.crowd(0), -1);
        due("never", x.crowd(1), -1);
        due("none", x.crowd(2), 0);
        x = fair("p0r5DE", "p2");
        x.person(3, 0, 4);
        x.person(4, 0, 2);
        due("the least number, then the least hour", x.crowd(0) * 10 + x.crowd(1), 34);
    }

    private static void likenessAndOdds() {
        promise = 20;
        SecondChances x = fair("p0r5ABC;t1d2DEF;s0d1A", "p2wh;t2");
        due("likeness(3, 0)", x.likeness(3, 0), -2);
        due("likeness(-1, 0)", x.likeness(-1, 0), -2);
        due("likeness(0, 8)", x.likeness(0, 8), -2);
        due("likeness(0, -1)", x.likeness(0, -1), -2);
        due("it cannot", x.likeness(0, 0), -3);
        x.set(1, 1);
        due("turned: 4, 3, 2", x.likeness(0, 0), 9);
        due("as it is: 3, 2", x.likeness(1, 0), 5);
        x.weather(0, 1);
        due("as it is: 4, 3, 2", x.likeness(0, 0), 9);
        due("not asked for, so not turned: 2", x.likeness(1, 0), 2);
        due("nobody comes", x.likeness(2, 0), 0);
        due("cut", fair("p0d5ABCD", "p3h").likeness(0, 0), 9);
        due("all", fair("p0d5ABCD", "p4h").likeness(0, 0), 10);
        due("a seventh", fair("p0d5ABCDEFG", "p2").likeness(0, 0), 3);

        promise = 21;
        due("odds(3, 0, 0)", x.odds(3, 0, 0), LONG_BAD);
        due("odds(-1, 0, 0)", x.odds(-1, 0, 0), LONG_BAD);
        due("odds(0, 8, 0)", x.odds(0, 8, 0), LONG_BAD);
        due("odds(0, -1, 0)", x.odds(0, -1, 0), LONG_BAD);
        due("odds(0, 0, 2)", x.odds(0, 0, 2), LONG_BAD);
        due("odds(0, 0, -1)", x.odds(0, 0, -1), LONG_BAD);
        x.set(1, 0);
        due("it cannot", x.odds(0, 1, 0), LONG_NOT);
        due("it cannot", x.odds(0, 1, 1), LONG_NOT);
        due("like enough", x.odds(0, 0, 0) * 10 + x.odds(0, 0, 1), 11);
        due("all remember", x.odds(1, 0, 0) * 10 + x.odds(1, 0, 1), 1);
        x.person(3, 3, 12);
        x.person(4, 3, 6);
        due("4 by 16, 10 by 16: above", x.odds(1, 0, 0), 5);
        due("below", x.odds(1, 0, 1), 32);
        x.person(5, 3, 16);
        due("who does not come does not count", x.odds(1, 0, 1), 32);
        x.set(3, 2);
        due("enough at least", x.odds(1, 0, 0) * 10 + x.odds(1, 0, 1), 11);
        x.set(3, 3);
        due("not enough", x.odds(1, 0, 1), 32);
        due("nobody comes, so all take it", x.odds(2, 0, 0) * 10 + x.odds(2, 0, 1), 11);
        x = fair("p0d5ABCD", "p4");
        x.set(3, 10);
        for (int p = 0; p < 4; p++) {
            x.person(p, 3, 1);
        }
        due("15 by 16 four times: above", x.odds(0, 0, 0), 50625);
        due("below", x.odds(0, 0, 1), 65536);
    }

    private static void sightings() {
        promise = 22;
        SecondChances x = new SecondChances();
        due("seen(8, 0, 0)", x.seen(8, 0, 0), -2);
        due("seen(-1, 0, 0)", x.seen(-1, 0, 0), -2);
        due("seen(0, 6, 0)", x.seen(0, 6, 0), -2);
        due("seen(0, -1, 0)", x.seen(0, -1, 0), -2);
        due("seen(0, 0, 8)", x.seen(0, 0, 8), -2);
        due("seen(0, 0, -1)", x.seen(0, 0, -1), -2);
        for (int i = 0; i < 10; i++) {
            due("number", x.seen(7, 5, 7), i);
        }
        due("an eleventh", x.seen(7, 5, 7), -4);
        due("BAD ahead of FULL", x.seen(7, 6, 7), -2);
        due("ten", x.count(4), 10);

        promise = 23;
        x = new SecondChances();
        due("none yet", x.isFalse(0, 1), -2);
        x.seen(0, 0, 3);
        x.seen(0, 1, 3);
        x.seen(0, 3, 4);
        x.seen(0, 5, 6);
        x.seen(1, 5, 3);
        due("with itself", x.isFalse(0, 0), -2);
        due("no such one", x.isFalse(0, 5), -2);
        due("no such one", x.isFalse(-1, 0), -2);
        due("one hour, unlike places", x.isFalse(0, 1), 1);
        due("next hours, 3 apart", x.isFalse(0, 2), 1);
        due("the other way", x.isFalse(2, 0), 1);
        due("next hours, 2 apart", x.isFalse(1, 2), 0);
        due("two hours apart", x.isFalse(2, 3), 0);
        due("two of the people", x.isFalse(0, 4), 0);
        x.seen(0, 0, 3);
        due("the same twice", x.isFalse(0, 5), 0);
        x.seen(2, 0, 0);
        x.seen(2, 5, 7);
        due("the night is no ring", x.isFalse(6, 7), 0);

        promise = 24;
        due("hats(-1)", x.hats(-1), -2);
        due("hats(2)", x.hats(2), -2);
        due("how many", x.hats(0), 2);
        due("1 and 2 are fewer than 0, 5 and one more", x.hats(1), 6);
        x = new SecondChances();
        due("none of none", x.hats(0) + x.hats(1), 0);
        x.seen(3, 0, 0);
        x.seen(3, 1, 0);
        due("of like ones the least", x.hats(0) * 100 + x.hats(1), 101);
        x.seen(3, 1, 0);
        due("the odd one out", x.hats(0) * 100 + x.hats(1), 101);
        x.seen(3, 0, 0);
        x.seen(3, 0, 0);
        due("the odd two out", x.hats(0) * 100 + x.hats(1), 206);
        x.seen(3, 5, 0);
        due("and another one", x.hats(0) * 100 + x.hats(1), 338);

        promise = 26;
        due("forget(-1)", x.forget(-1), -2);
        due("forget(2)", x.forget(2), -2);
        due("forget(0)", x.forget(0), 6);
        due("forget(0) again", x.forget(0), 0);
        due("no hats", x.hats(0) + x.hats(1), 0);
        due("from 0 on", x.seen(3, 0, 0), 0);
        due("nothing of before", x.seen(3, 0, 0), 1);
        due("nothing of before", x.hats(0), 0);
    }

    private static void pairs() {
        promise = 25;
        SecondChances x = fair("p0d5A;r0d3A;t0d4A;s0d9A", "");
        due("after(0, 0)", x.after(0, 0), -2);
        due("after(8, 0)", x.after(8, 0), -2);
        due("after(0, 8)", x.after(0, 8), -2);
        due("after(-1, 0)", x.after(-1, 0), -2);
        due("after(0, -1)", x.after(0, -1), -2);
        due("deeds that are not there", x.after(7, 6), 1);
        for (int n = 2; n <= 10; n++) {
            due("a like pair is one more", x.after(0, 1), n);
        }
        due("an eleventh", x.after(0, 1), -4);
        due("BAD ahead of FULL", x.after(1, 1), -2);
        due("ten", x.count(5), 10);

        promise = 26;
        due("forget(1)", x.forget(1), 10);
        due("forget(1) again", x.forget(1), 0);
        due("none", x.count(5), 0);

        promise = 27;
        x.after(1, 2);
        x.after(0, 1);
        x.after(2, 7);
        x.after(7, 3);
        due("spared(-1)", x.spared(-1), -2);
        due("spared(16)", x.spared(16), -2);
        due("spared(GREATEST)", x.spared(GREATEST), -2);
        due("by nothing", x.spared(0), 0);
        due("one behind the other", x.spared(1), 7);
        due("through one in the set", x.spared(3), 4);
        due("not through one that is not there", x.spared(4), 0);
        due("by all", x.spared(15), 0);
        x.after(2, 0);
        due("a ring", x.spared(4), 8);
        x.after(2, 3);
        due("all others", x.spared(2), 18);

        promise = 28;
        due("of like ones the least", x.best(), 0);
        x.forget(1);
        due("the worthiest", x.best(), 3);
        x.after(1, 3);
        due("by what is spared", x.best(), 1);
        due("one of little worth", fair("p0d1A", "").best(), 0);
        x.wipe(0);
        due("no deed", x.best(), -1);
        due("no set but none", x.spared(0) * 10 + x.spared(1), -2);
    }

    private static void regrets() {
        promise = 29;
        SecondChances x = fair("p0r1A;p0r1B;p0d1C;r0d1D", "p1w");
        due("regrets(-1, 0)", x.regrets(-1, 0), LONG_BAD);
        due("regrets(9, 0)", x.regrets(9, 0), LONG_BAD);
        due("regrets(0, 2)", x.regrets(0, 2), LONG_BAD);
        due("regrets(0, -1)", x.regrets(0, -1), LONG_BAD);
        due("regrets(5, 0)", x.regrets(5, 0), LONG_NOT);
        due("regrets(8, 1)", x.regrets(8, 1), LONG_NOT);
        due("of none", x.regrets(0, 0) * 10 + x.regrets(0, 1), 11);
        due("of one", x.regrets(1, 0) * 10 + x.regrets(1, 1), 12);
        due("of two", x.regrets(2, 0) * 10 + x.regrets(2, 1), 16);
        due("of three", x.regrets(3, 0) * 10 + x.regrets(3, 1), 1);
        due("of four", x.regrets(4, 0) * 10 + x.regrets(4, 1), 1);
        x.weather(5, 1);
        due("any hour is enough", x.regrets(1, 0) * 10 + x.regrets(1, 1), 1);
        x = fair("p0r1A;p0r1B;p0r1C;p0r1D;p0r1E;p0r1F;p0r1G;r0d1D", "p1w");
        due("of eight: above", x.regrets(3, 0), 5);
        due("below", x.regrets(3, 1), 8);
        due("seven of eight", x.regrets(7, 0) * 10 + x.regrets(7, 1), 18);
        due("all eight", x.regrets(8, 0) * 10 + x.regrets(8, 1), 1);
    }

    private static void sheets() {
        promise = 30;
        SecondChances x = new SecondChances();
        due("sheet(-1, 0, 0)", x.sheet(-1, 0, 0), -2);
        due("sheet(4, 0, 0)", x.sheet(4, 0, 0), -2);
        due("sheet(0, -1, 0)", x.sheet(0, -1, 0), -2);
        due("sheet(0, 3, 0)", x.sheet(0, 3, 0), -2);
        due("sheet(0, 0, 61)", x.sheet(0, 0, 61), -2);
        due("nothing found", x.count(8), 0);
        due("below 0", x.sheet(0, 0, -1), SIZE);
        due("the least int", x.sheet(0, 2, LEAST), SIZE);
        due("BAD ahead of SIZE", x.sheet(0, 3, -1), -2);
        due("told", x.count(8), 5);
        due("still lost", x.lose(0), NULL);
        due("60 items", x.sheet(0, 2, 60), 60);
        due("0 items", x.sheet(1, 0, 0), 0);
        x.put(0, 2, 59, 7);
        due("a new row", x.sheet(0, 2, 60), 60);
        due("is empty", x.get(0, 2, 59), 0);
        x.put(0, 2, 3, 7);
        x.sheet(0, 2, 2);
        x.sheet(0, 2, 5);
        due("is empty", x.get(0, 2, 3), 0);

        promise = 31;
        due("lose(-1)", x.lose(-1), -2);
        due("lose(4)", x.lose(4), -2);
        due("lose(0)", x.lose(0), 5);
        due("lose(0) again", x.lose(0), NULL);
        due("an empty one", x.lose(1), 0);
        due("told", x.count(8), 1);

        promise = 32;
        x = new SecondChances();
        due("put(-1, 0, 0, 0)", x.put(-1, 0, 0, 0), -2);
        due("put(4, 0, 0, 0)", x.put(4, 0, 0, 0), -2);
        due("put(0, -1, 0, 0)", x.put(0, -1, 0, 0), -2);
        due("put(0, 3, 0, 0)", x.put(0, 3, 0, 0), -2);
        due("put(0, 0, 0, 0)", x.put(0, 0, 0, 0), NULL);
        x.sheet(0, 0, 3);
        x.sheet(1, 1, 3);
        x.sheet(2, 2, 3);
        due("another form", x.put(0, 1, 0, 0), CAST);
        due("CAST ahead of INDEX", x.put(0, 1, 9, 0), CAST);
        due("told", x.count(8), 3);
        due("below", x.put(0, 0, -1, 0), INDEX);
        due("above", x.put(0, 0, 3, 0), INDEX);
        due("told", x.count(8), 2);
        int[] bytes = {127, 128, 255};
        int[] kept = {127, -128, -1};
        for (int i = 0; i < 3; i++) {
            due("put", x.put(0, 0, i, bytes[i]), 1);
            due("a byte", x.get(0, 0, i), kept[i]);
        }
        x.put(1, 1, 0, 32767);
        x.put(1, 1, 1, 32768);
        x.put(1, 1, 2, -32769);
        due("a short", x.get(1, 1, 0), 32767);
        due("a short", x.get(1, 1, 1), -32768);
        due("a short", x.get(1, 1, 2), 32767);
        x.put(2, 2, 2, GREATEST);
        due("an int", x.get(2, 2, 2), GREATEST);

        promise = 33;
        due("nothing of it changes", x.count(8), 2);
        due("get(-1, 0, 0)", x.get(-1, 0, 0), LEAST);
        due("get(4, 0, 0)", x.get(4, 0, 0), LEAST);
        due("get(0, -1, 0)", x.get(0, -1, 0), LEAST);
        due("get(0, 3, 0)", x.get(0, 3, 0), LEAST);
        due("BAD is not told", x.count(8), 2);
        due("lost", x.get(3, 0, 0), LEAST);
        due("told", x.count(8), 1);
        due("another form", x.get(0, 2, 9), LEAST);
        due("told", x.count(8), 3);
        due("above", x.get(0, 0, 3), LEAST);
        due("told", x.count(8), 2);
        x.lose(3);
        due("below", x.get(0, 0, -1), LEAST);
        due("told", x.count(8), 2);
    }

    private static void copies() {
        promise = 34;
        SecondChances x = new SecondChances();
        fill(x, 0, 2, 1, 2, 3, 4, 5);
        fill(x, 1, 2, 9, 9, 9);
        fill(x, 2, 1, 8, 8, 8);
        due("copy(-1, 0, 0, 0, 0)", x.copy(-1, 0, 0, 0, 0), -2);
        due("copy(0, 0, 4, 0, 0)", x.copy(0, 0, 4, 0, 0), -2);
        due("from a lost one", x.copy(3, 0, 0, 0, 0), NULL);
        due("to a lost one", x.copy(0, 0, 3, 0, 0), NULL);
        due("unlike forms", x.copy(0, -1, 2, 0, 0), STORE);
        due("told", x.count(8), 4);
        int[][] off = {{-1, 0, 1}, {0, -1, 1}, {0, 0, -1}, {3, 0, 3}, {0, 2, 2}, {6, 0, 0}, {0, 4, 0},
            {1, 0, GREATEST}, {GREATEST, 0, GREATEST}, {0, GREATEST, 1}, {0, 0, LEAST}};
        for (int[] o : off) {
            due("off", x.copy(0, o[0], 1, o[1], o[2]), INDEX);
        }
        due("told", x.count(8), 2);
        due("nothing at the ends", x.copy(0, 5, 1, 3, 0), 1);
        due("nothing came", x.get(1, 2, 2), 9);
        due("two", x.copy(0, 3, 1, 1, 2), 1);
        due("they came", x.get(1, 2, 0) * 100 + x.get(1, 2, 1) * 10 + x.get(1, 2, 2), 945);
        due("upwards in one", x.copy(0, 0, 0, 1, 4), 1);
        due("as they were", x.get(0, 2, 1) * 1000 + x.get(0, 2, 2) * 100 + x.get(0, 2, 3) * 10 + x.get(0, 2, 4), 1234);
        due("downwards in one", x.copy(0, 2, 0, 0, 3), 1);
        due("as they were", x.get(0, 2, 0) * 1000 + x.get(0, 2, 1) * 100 + x.get(0, 2, 2) * 10 + x.get(0, 2, 3), 2343);
    }

    private static void writing() {
        promise = 35;
        SecondChances x = fair("p0r5A;p1d4B;p2d3B", "p1w");
        due("write(-1)", x.write(-1), -2);
        due("write(4)", x.write(4), -2);
        due("write(0)", x.write(0), NULL);
        fill(x, 0, 0, 5, 5, 5, 5);
        due("as many as deeds", x.write(0), 3);
        int[] items = {-1, 0, 1, 5};
        for (int i = 0; i < 4; i++) {
            due("item " + i, x.get(0, 0, i), items[i]);
        }
        fill(x, 1, 1, 5, 5);
        due("as many as items", x.write(1), 2);
        due("none", x.get(1, 1, 0), -1);
        fill(x, 2, 2, 5);
        x.wipe(0);
        due("no deeds", x.write(2), 0);
        due("stays", x.get(2, 2, 0), 5);
    }

    private static void counts() {
        promise = 36;
        SecondChances x = fair("p0r5A;p1d4B", "p1w;p2;r0");
        x.seen(0, 0, 0);
        x.after(0, 1);
        x.after(1, 0);
        x.weather(3, 1);
        x.weather(5, 1);
        x.weather(6, 1);
        x.lose(0);
        int[] all = {2, 11, 9, 3, 1, 2, 9, 3, 1};
        for (int what = 0; what <= 8; what++) {
            due("count(" + what + ")", x.count(what), all[what]);
        }
        due("count(-1)", x.count(-1), -2);
        due("count(9)", x.count(9), -2);
        x.type(0, ';');
        x.type(1, 'x');
        int[] faulty = {0, 12, 10, 0, 1, 2, 0, 3, 1};
        for (int what = 0; what <= 8; what++) {
            due("count(" + what + ") with faults", x.count(what), faulty[what]);
        }
    }

    private static void digests() {
        promise = 37;
        SecondChances x = fair(FIVE, FIVE_RULES);
        due("of five deeds", x.digest(), told(x));
        x.weather(2, 1);
        x.set(3, 9);
        x.person(0, 3, 5);
        x.after(0, 3);
        x.seen(0, 0, 0);
        x.seen(0, 5, 0);
        due("with more", x.digest(), told(x));
        x.lose(0);
        due("without the latest finding", x.digest(), told(x));
        x.type(0, ';');
        due("with a fault", x.digest(), told(x));
        due("of a new one", new SecondChances().digest(), told(new SecondChances()));
    }

    /** The digest by the document's words, over the other calls. */
    private static long told(SecondChances x) {
        long h = 17;
        for (int i = 0; i < 8; i++) {
            h = h * 31 + x.count(i);
        }
        h = (h * 31 + x.fault(0)) * 31 + x.fault(1);
        for (int d = 0; d < x.count(0); d++) {
            for (int i = 0; i < 5; i++) {
                h = h * 31 + x.deed(d, i);
            }
            h = h * 31 + x.hours(d);
            h = h * 31 + x.costs(d, 2);
            h = h * 31 + x.likeness(d, 2);
            h = h * 31 + x.odds(d, 2, 0);
            h = h * 31 + x.odds(d, 2, 1);
            h = h * 31 + x.when(d);
            h = h * 31 + x.spared(1 << d);
        }
        for (int i = 0; i < 12; i++) {
            h = h * 31 + x.rule(i / 3, i % 3);
        }
        h = (h * 31 + x.most(0)) * 31 + x.most(1);
        h = ((h * 31 + x.crowd(0)) * 31 + x.crowd(1)) * 31 + x.crowd(2);
        h = (h * 31 + x.hats(0)) * 31 + x.hats(1);
        h = h * 31 + x.best();
        return (h * 31 + x.regrets(2, 0)) * 31 + x.regrets(2, 1);
    }

    private static void refusalsChangeNothing() {
        promise = 0;
        SecondChances x = fair(FIVE, FIVE_RULES);
        x.weather(2, 1);
        fill(x, 0, 2, 1, 2, 3);
        long before = x.digest();
        int[] ends = {LEAST, -1, 100000, GREATEST};
        for (int a : ends) {
            for (int b : ends) {
                x.type(a, b);
                x.wipe(a);
                x.person(a, b, 0);
                x.person(0, 2, a);
                x.weather(a, b);
                x.set(a, b);
                x.set(2, b);
                x.read(a);
                x.plan(a, b);
                x.seen(a, b, 0);
                x.after(a, b);
                x.forget(a);
                x.sheet(a, b, 0);
                x.sheet(0, 0, a == 1 ? 0 : a);
                x.lose(a);
                x.put(0, 2, a, b);
                x.put(0, 0, 0, b);
                x.copy(0, a, 0, b, 1);
                x.write(a);
            }
        }
        due("digest", x.digest(), before);
        due("items", x.get(0, 2, 0) * 100 + x.get(0, 2, 1) * 10 + x.get(0, 2, 2), 123);
        due("the sheet", x.lose(0), 3);
    }
}
