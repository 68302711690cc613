import java.util.ArrayList;
import java.util.Arrays;
import java.util.Comparator;
import java.util.List;
import java.util.Random;

/** Long runs of calls from fixed seeds, beside a slow, plain second writing of the document. */
public final class ModelTest {
    private static final int RUNS = 300, CALLS = 512;
    private static int wrong;

    public static void main(String[] args) {
        for (int seed = 1; seed <= RUNS && wrong < 20; seed++) {
            new Run(seed).go();
        }
        System.out.println(wrong == 0 ? RUNS + " runs are as the model has them" : wrong + " answers are not as the model has them");
        if (wrong != 0) {
            System.exit(1);
        }
    }

    /** One object, one model, and the calls that both of them get. */
    private static final class Run {
        private static final String KINDS = "prts";
        private final Random dice;
        private final int seed;
        private final SecondChances x = new SecondChances();
        private final Model m = new Model();
        private final List<String> log = new ArrayList<>();
        private final boolean wild;

        Run(int seed) {
            this.seed = seed;
            dice = new Random(seed);
            wild = seed % 5 == 0;
        }

        void go() {
            if (!wild) {
                typeAll(0, someDeeds());
                typeAll(1, someRules());
            }
            while (log.size() < CALLS) {
                if (dice.nextInt(wild ? 3 : 6) == 0) {
                    change();
                } else {
                    ask();
                }
            }
        }

        private void same(String call, long got, long want) {
            log.add(call);
            if (got != want) {
                wrong++;
                System.out.println("seed " + seed + ": " + call + " answered " + got + ", the model has " + want);
                if (wrong == 1) {
                    System.out.println("  deeds " + m.text[0] + " rules " + m.text[1] + " after " + log);
                }
            }
        }

        private int upTo(int most) {
            if (dice.nextInt(wild ? 8 : 40) == 0) {
                int[] odd = {-1, most + 1, -2, Integer.MIN_VALUE, Integer.MAX_VALUE, 60, 61, -60, 255, 256};
                return odd[dice.nextInt(odd.length)];
            }
            return dice.nextInt(most + 1);
        }

        private String someDeeds() {
            StringBuilder b = new StringBuilder();
            int n = dice.nextInt(3) == 0 ? 8 : 1 + dice.nextInt(8);
            int places = 1 + dice.nextInt(6);
            int crowd = 1 + dice.nextInt(dice.nextBoolean() ? 8 : 3);
            for (int d = 0; d < n; d++) {
                b.append(d == 0 ? "" : ";").append(KINDS.charAt(dice.nextInt(4))).append(dice.nextInt(places));
                b.append(dice.nextBoolean() ? 'r' : 'd').append(1 + dice.nextInt(9));
                List<Integer> people = new ArrayList<>(List.of(0, 1, 2, 3, 4, 5, 6, 7));
                for (int i = dice.nextInt(crowd); i >= 0; i--) {
                    b.append((char) ('A' + people.remove(dice.nextInt(people.size()))));
                }
            }
            if (dice.nextInt(12) == 0) {
                b.setCharAt(dice.nextInt(b.length()), ";prtsdwh0123459ABHI".charAt(dice.nextInt(19)));
            }
            return b.toString();
        }

        private String someRules() {
            StringBuilder b = new StringBuilder();
            int n = dice.nextInt(7);
            for (int i = 0; i < n; i++) {
                b.append(i == 0 ? "" : ";").append(KINDS.charAt(dice.nextInt(4))).append(dice.nextInt(5));
                b.append(dice.nextInt(3) == 0 ? "w" : "").append(dice.nextInt(3) == 0 ? "h" : "");
            }
            if (b.length() > 0 && dice.nextInt(12) == 0) {
                b.setCharAt(dice.nextInt(b.length()), ";prtswh012345".charAt(dice.nextInt(13)));
            }
            return b.toString();
        }

        private void typeAll(int text, String signs) {
            for (int i = 0; i < signs.length() && log.size() < CALLS; i++) {
                typeOne(text, signs.charAt(i));
            }
        }

        private void typeOne(int text, int b) {
            same("type(" + text + ", " + b + ")", x.type(text, b), m.type(text, b));
        }

        private void change() {
            int a = upTo(7);
            int b = upTo(3);
            int c;
            switch (dice.nextInt(12)) {
                case 0:
                    c = upTo(1);
                    if (dice.nextInt(3) == 0) {
                        same("wipe(" + c + ")", x.wipe(c), m.wipe(c));
                        typeAll(c, c == 0 ? someDeeds() : someRules());
                    } else {
                        typeOne(c, dice.nextInt(4) == 0 ? upTo(255) : ";prtsrdwh0123459ABCDEFGHI".charAt(dice.nextInt(25)));
                    }
                    break;
                case 1:
                case 2:
                    c = upTo(dice.nextInt(3) == 0 ? 9 : b == 0 ? 4 : b == 1 ? 8 : b == 2 ? 99 : 16);
                    same("person(" + a + ", " + b + ", " + c + ")", x.person(a, b, c), m.person(a, b, c));
                    break;
                case 3:
                    c = upTo(1);
                    same("weather(" + a + ", " + c + ")", x.weather(a, c), m.weather(a, c));
                    break;
                case 4:
                    c = upTo(b == 0 ? 20 : b == 1 ? 1 : b == 2 ? dice.nextBoolean() ? 30 : 999 : 10);
                    same("set(" + b + ", " + c + ")", x.set(b, c), m.set(b, c));
                    break;
                case 5:
                    same("read(" + b + ")", x.read(b), m.read(b));
                    break;
                case 6:
                    c = upTo(7);
                    int place = upTo(5);
                    int who = dice.nextBoolean() ? dice.nextInt(2) : a;
                    same("seen(" + who + ", " + place + ", " + c + ")", x.seen(who, place, c), m.seen(who, place, c));
                    break;
                case 7:
                    c = upTo(7);
                    same("after(" + a + ", " + c + ")", x.after(a, c), m.after(a, c));
                    break;
                case 8:
                    c = upTo(1);
                    if (dice.nextInt(3) == 0) {
                        same("forget(" + c + ")", x.forget(c), m.forget(c));
                    }
                    break;
                default:
                    changeSheets(b);
                    break;
            }
        }

        private void changeSheets(int s) {
            int form = upTo(2);
            int i = upTo(9);
            int t = upTo(3);
            int n = upTo(dice.nextBoolean() ? 10 : 60);
            switch (dice.nextInt(8)) {
                case 0:
                    same("sheet(" + s + ", " + form + ", " + n + ")", x.sheet(s, form, n), m.sheet(s, form, n));
                    break;
                case 1:
                    if (dice.nextInt(3) == 0) {
                        same("lose(" + s + ")", x.lose(s), m.lose(s));
                    }
                    break;
                case 2:
                case 3:
                    form = s >= 0 && s < 4 && m.sheets[s] != null && dice.nextInt(4) != 0 ? m.forms[s] : form;
                    int v = dice.nextInt(4) == 0 ? dice.nextInt() : dice.nextInt(9) - 1;
                    same("put(" + s + ", " + form + ", " + i + ", " + v + ")", x.put(s, form, i, v), m.put(s, form, i, v));
                    break;
                case 4:
                case 5:
                    int j = upTo(9);
                    n = dice.nextInt(4) == 0 ? n : dice.nextInt(4);
                    same("copy(" + s + ", " + i + ", " + t + ", " + j + ", " + n + ")", x.copy(s, i, t, j, n), m.copy(s, i, t, j, n));
                    break;
                default:
                    same("write(" + s + ")", x.write(s), m.write(s));
                    break;
            }
        }

        private void ask() {
            int d = upTo(dice.nextInt(3) == 0 ? 7 : Math.max(0, m.deeds().size() - 1));
            int h = upTo(7);
            int w = upTo(1);
            switch (dice.nextInt(24)) {
                case 0: same("fault(" + w + ")", x.fault(w), m.fault(w)); break;
                case 1: w = upTo(4); same("deed(" + d + ", " + w + ")", x.deed(d, w), m.deed(d, w)); break;
                case 2: d = upTo(3); w = upTo(2); same("rule(" + d + ", " + w + ")", x.rule(d, w), m.rule(d, w)); break;
                case 3: same("can(" + d + ", " + h + ")", x.can(d, h), m.can(d, h)); break;
                case 4: same("hours(" + d + ")", x.hours(d), m.hours(d)); break;
                case 5: same("comes(" + d + ", " + h + ")", x.comes(d, h), m.comes(d, h)); break;
                case 6: same("costs(" + d + ", " + h + ")", x.costs(d, h), m.costs(d, h)); break;
                case 7: same("most(" + w + ")", x.most(w), m.most(w)); break;
                case 8:
                case 9: same("when(" + d + ")", x.when(d), m.when(d)); break;
                case 10:
                case 11: askPlan(); break;
                case 12: d = upTo(7); same("asked(" + d + ", " + h + ")", x.asked(d, h), m.asked(d, h)); break;
                case 13: w = upTo(2); same("crowd(" + w + ")", x.crowd(w), m.crowd(w)); break;
                case 14: same("likeness(" + d + ", " + h + ")", x.likeness(d, h), m.likeness(d, h)); break;
                case 15: same("odds(" + d + ", " + h + ", " + w + ")", x.odds(d, h, w), m.odds(d, h, w)); break;
                case 16: d = upTo(9); h = upTo(9); same("isFalse(" + d + ", " + h + ")", x.isFalse(d, h), m.isFalse(d, h)); break;
                case 17: same("hats(" + w + ")", x.hats(w), m.hats(w)); break;
                case 18: d = upTo((1 << m.deeds().size()) - 1); same("spared(" + d + ")", x.spared(d), m.spared(d)); break;
                case 19: same("best()", x.best(), m.best()); break;
                case 20: d = upTo(8); same("regrets(" + d + ", " + w + ")", x.regrets(d, w), m.regrets(d, w)); break;
                case 21: askItem(); break;
                case 22: w = upTo(8); same("count(" + w + ")", x.count(w), m.count(w)); break;
                default: same("digest()", x.digest(), m.digest()); break;
            }
        }

        /** Mostly a row that is nearly the best one, which is a plan more often than chance would have it. */
        private void askPlan() {
            int s = upTo(3);
            int what = upTo(2);
            if (dice.nextBoolean() && log.size() < CALLS - 4) {
                same("sheet(" + s + ", 2, 8)", x.sheet(s, 2, 8), m.sheet(s, 2, 8));
                same("write(" + s + ")", x.write(s), m.write(s));
                int i = dice.nextInt(8);
                int v = dice.nextInt(9) - 1;
                same("put(" + s + ", 2, " + i + ", " + v + ")", x.put(s, 2, i, v), m.put(s, 2, i, v));
            }
            same("plan(" + s + ", " + what + ")", x.plan(s, what), m.plan(s, what));
        }

        private void askItem() {
            int s = upTo(3);
            int form = s >= 0 && s < 4 && m.sheets[s] != null && dice.nextInt(4) != 0 ? m.forms[s] : upTo(2);
            int i = upTo(9);
            same("get(" + s + ", " + form + ", " + i + ")", x.get(s, form, i), m.get(s, form, i));
        }
    }

    private record Deed(int kind, int place, int wet, int worth, List<Integer> there) {
        int bits() {
            return there.stream().mapToInt(p -> 1 << p).sum();
        }
    }

    /** The document once more, by its plainest words; only the texts and MOST are kept while nothing changes. */
    private static final class Model {
        static final int BAD = -2, NOT = -3, FULL = -4;
        final StringBuilder[] text = {new StringBuilder(), new StringBuilder()};
        final int[][] people = new int[8][];
        final int[] sky = new int[8];
        final int[] settings = {9, 0, 999, 6};
        final List<int[]> seen = new ArrayList<>();
        final List<int[]> pairs = new ArrayList<>();
        final int[][] sheets = new int[4][];
        final int[] forms = new int[4];
        int latest;

        Model() {
            for (int p = 0; p < 8; p++) {
                people[p] = new int[] {0, 8, 1, 16};
            }
        }

        static boolean in(int v, int least, int most) {
            return least <= v && v <= most;
        }

        int find(int number) {
            latest = number;
            return -10 - number;
        }

        int type(int t, int b) {
            if (!in(t, 0, 1) || !in(b, 0, 255)) return BAD;
            if (text[t].length() == (t == 0 ? 80 : 40)) return FULL;
            text[t].append((char) b);
            return text[t].length();
        }

        int wipe(int t) {
            if (!in(t, 0, 1)) return BAD;
            int had = text[t].length();
            text[t].setLength(0);
            return had;
        }

        int fault(int t) {
            if (!in(t, 0, 1)) return BAD;
            String all = text[t].toString();
            if (all.isEmpty()) return -1;
            String[] parts = all.split(";", -1);
            int start = 0;
            for (int k = 0; k < parts.length; k++) {
                if (t == 0 && k == 8) return start;
                int off = t == 0 ? deedFault(parts[k]) : ruleFault(parts[k]);
                if (off >= 0) return start + off;
                start += parts[k].length() + 1;
            }
            return -1;
        }

        static int deedFault(String part) {
            String[] allowed = {"prts", "012345", "rd", "123456789"};
            for (int i = 0; i < 4; i++) {
                if (i >= part.length() || allowed[i].indexOf(part.charAt(i)) < 0) return i;
            }
            if (part.length() == 4) return 4;
            for (int i = 4; i < part.length(); i++) {
                if ("ABCDEFGH".indexOf(part.charAt(i)) < 0 || part.substring(4, i).indexOf(part.charAt(i)) >= 0) return i;
            }
            return -1;
        }

        static int ruleFault(String part) {
            for (int n = 0; n <= part.length(); n++) {
                if (!part.substring(0, n).matches("([prts]([0-4]w?h?)?)?")) return n - 1;
            }
            return part.length() < 2 ? part.length() : -1;
        }

        private String deedsKey = "";
        private List<Deed> deedsKept = List.of();
        private String rulesKey = "";
        private int[][] rulesKept = new int[4][3];

        List<Deed> deeds() {
            if (!deedsKey.contentEquals(text[0])) {
                deedsKey = text[0].toString();
                deedsKept = parseDeeds();
            }
            return deedsKept;
        }

        private List<Deed> parseDeeds() {
            List<Deed> found = new ArrayList<>();
            if (text[0].length() == 0 || fault(0) != -1) return found;
            for (String part : text[0].toString().split(";")) {
                List<Integer> there = new ArrayList<>();
                part.substring(4).chars().forEach(c -> there.add(c - 'A'));
                found.add(new Deed("prts".indexOf(part.charAt(0)), part.charAt(1) - '0', part.charAt(2) == 'r' ? 1 : 0, part.charAt(3) - '0', there));
            }
            return found;
        }

        int[][] rules() {
            if (!rulesKey.contentEquals(text[1])) {
                rulesKey = text[1].toString();
                rulesKept = parseRules();
            }
            return rulesKept;
        }

        private int[][] parseRules() {
            int[][] found = new int[4][3];
            if (text[1].length() == 0 || fault(1) != -1) return found;
            for (String part : text[1].toString().split(";")) {
                found["prts".indexOf(part.charAt(0))] = new int[] {part.charAt(1) - '0', part.contains("w") ? 1 : 0, part.contains("h") ? 1 : 0};
            }
            return found;
        }

        boolean noDeed(int d) {
            return !in(d, 0, deeds().size() - 1);
        }

        int deed(int d, int what) {
            if (noDeed(d) || !in(what, 0, 4)) return BAD;
            Deed e = deeds().get(d);
            return new int[] {e.kind, e.place, e.wet, e.worth, e.bits()}[what];
        }

        int rule(int kind, int what) {
            return in(kind, 0, 3) && in(what, 0, 2) ? rules()[kind][what] : BAD;
        }

        int person(int p, int what, int v) {
            if (!in(p, 0, 7) || !in(what, 0, 3) || !in(v, 0, new int[] {7, 8, 99, 16}[what])) return BAD;
            int was = people[p][what];
            people[p][what] = v;
            return was;
        }

        int weather(int h, int v) {
            if (!in(h, 0, 7) || !in(v, 0, 1)) return BAD;
            int was = sky[h];
            sky[h] = v;
            return was;
        }

        int set(int what, int v) {
            if (!in(what, 0, 3) || !in(v, 0, new int[] {99, 1, 999, 10}[what])) return BAD;
            int was = settings[what];
            settings[what] = v;
            return was;
        }

        int read(int s) {
            if (!in(s, 0, 3)) return BAD;
            if (sheets[s] == null) return find(1);
            int h = 0;
            while (h < 8 && h < sheets[s].length && in(sheets[s][h], 0, 1)) {
                sky[h] = sheets[s][h];
                h++;
            }
            return h;
        }

        boolean turned(Deed e, int h) {
            return rules()[e.kind][1] == 1 && sky[h] != e.wet;
        }

        /** Who comes to a deed in an hour; null: it cannot. */
        List<Integer> coming(Deed e, int h) {
            List<Integer> able = new ArrayList<>(e.there);
            able.removeIf(p -> h < people[p][0] || h >= people[p][1]);
            able.sort(Comparator.<Integer>comparingInt(p -> people[p][2]).thenComparingInt(p -> p));
            int need = Math.min(rules()[e.kind][0], e.there.size());
            if (able.size() < need || turned(e, h) && settings[1] == 0) return null;
            return able.subList(0, need);
        }

        static int bits(List<Integer> who) {
            return who.stream().mapToInt(p -> 1 << p).sum();
        }

        int can(int d, int h) {
            if (noDeed(d) || !in(h, 0, 7)) return BAD;
            return coming(deeds().get(d), h) != null ? 1 : 0;
        }

        int hours(int d) {
            if (noDeed(d)) return BAD;
            int found = 0;
            for (int h = 0; h < 8; h++) found += can(d, h) << h;
            return found;
        }

        int comes(int d, int h) {
            int can = can(d, h);
            return can == 1 ? bits(coming(deeds().get(d), h)) : can == 0 ? NOT : BAD;
        }

        int costs(int d, int h) {
            int can = can(d, h);
            if (can != 1) return can == 0 ? NOT : BAD;
            Deed e = deeds().get(d);
            return coming(e, h).stream().mapToInt(p -> people[p][2]).sum() + (turned(e, h) ? settings[0] : 0);
        }

        /** What a row costs; -1: it is no plan. */
        int costOf(int[] row) {
            List<Deed> all = deeds();
            int[][] rules = rules();
            int sum = 0;
            for (int h = 0; h < 8; h++) {
                int busy = 0;
                boolean rain = false;
                for (int d = 0; d < all.size(); d++) {
                    if (row[d] != h) continue;
                    Deed e = all.get(d);
                    List<Integer> who = coming(e, h);
                    if (who == null || (busy & bits(who)) != 0) return -1;
                    busy |= bits(who);
                    rain |= turned(e, h);
                    for (int p : who) sum += people[p][2];
                    for (int o = 0; o < d; o++) {
                        Deed f = all.get(o);
                        if (row[o] != h) continue;
                        if (rules[e.kind][2] == 1 && rules[f.kind][2] == 1 && e.place == f.place) return -1;
                        if (rules[e.kind][1] == 1 && rules[f.kind][1] == 1 && e.wet != f.wet) return -1;
                    }
                }
                sum += rain ? settings[0] : 0;
            }
            for (int d = 0; d < all.size(); d++) {
                if (!in(row[d], -1, 7)) return -1;
            }
            return sum;
        }

        private String planKey = "";
        private int bestWorth;
        private int bestCost;
        private int[] bestRow;
        private int[] trial;
        private int[][] who;
        private int[][] price;
        private int[][] rulesNow;
        private List<Deed> deedsNow;

        /** All rows in their order, but those that can no longer become better ones. */
        void reckonMost() {
            String key = text[0] + "|" + text[1] + "|" + Arrays.deepToString(people) + Arrays.toString(sky) + Arrays.toString(settings);
            if (key.equals(planKey)) return;
            planKey = key;
            deedsNow = deeds();
            rulesNow = rules();
            int n = deedsNow.size();
            who = new int[n][8];
            price = new int[n][8];
            for (int d = 0; d < n; d++) {
                for (int h = 0; h < 8; h++) {
                    List<Integer> come = coming(deedsNow.get(d), h);
                    who[d][h] = come == null ? -1 : bits(come);
                    price[d][h] = come == null ? 0 : come.stream().mapToInt(p -> people[p][2]).sum();
                }
            }
            bestWorth = -1;
            trial = new int[n];
            int rest = deedsNow.stream().mapToInt(Deed::worth).sum();
            tryFrom(0, 0, 0, rest);
            if (costOf(bestRow) != bestCost) throw new IllegalStateException("the model is at odds with itself");
        }

        private void tryFrom(int d, int worth, int cost, int rest) {
            if (cost > settings[2] || worth + rest < bestWorth || worth + rest == bestWorth && cost >= bestCost) return;
            if (d == trial.length) {
                bestWorth = worth;
                bestCost = cost;
                bestRow = trial.clone();
                return;
            }
            int own = deedsNow.get(d).worth;
            trial[d] = -1;
            tryFrom(d + 1, worth, cost, rest - own);
            for (int h = 0; h < 8; h++) {
                int more = moreCost(d, h);
                if (more < 0) continue;
                trial[d] = h;
                tryFrom(d + 1, worth + own, cost + more, rest - own);
            }
            trial[d] = -1;
        }

        private int moreCost(int d, int h) {
            if (who[d][h] < 0) return -1;
            Deed e = deedsNow.get(d);
            boolean paid = false;
            for (int o = 0; o < d; o++) {
                if (trial[o] != h) continue;
                Deed f = deedsNow.get(o);
                boolean bothWeather = rulesNow[e.kind][1] == 1 && rulesNow[f.kind][1] == 1;
                boolean bothPlace = rulesNow[e.kind][2] == 1 && rulesNow[f.kind][2] == 1;
                if ((who[d][h] & who[o][h]) != 0 || bothPlace && e.place == f.place || bothWeather && e.wet != f.wet) return -1;
                paid |= rulesNow[f.kind][1] == 1 && f.wet != sky[h];
            }
            boolean turn = rulesNow[e.kind][1] == 1 && e.wet != sky[h];
            return price[d][h] + (turn && !paid ? settings[0] : 0);
        }

        int most(int what) {
            if (!in(what, 0, 1)) return BAD;
            reckonMost();
            return what == 0 ? bestWorth : bestCost;
        }

        int when(int d) {
            if (noDeed(d)) return BAD;
            reckonMost();
            return bestRow[d];
        }

        int plan(int s, int what) {
            if (!in(s, 0, 3) || !in(what, 0, 2)) return BAD;
            if (sheets[s] == null) return find(1);
            List<Deed> all = deeds();
            if (sheets[s].length < all.size()) return NOT;
            int cost = costOf(sheets[s]);
            if (what == 0) return cost < 0 ? 0 : 1;
            if (cost < 0) return NOT;
            int worth = 0;
            for (int d = 0; d < all.size(); d++) worth += sheets[s][d] >= 0 ? all.get(d).worth : 0;
            return what == 1 ? worth : cost;
        }

        int asked(int p, int h) {
            if (!in(p, 0, 7) || !in(h, 0, 7)) return BAD;
            return (int) deeds().stream().map(e -> coming(e, h)).filter(w -> w != null && w.contains(p)).count();
        }

        int crowd(int what) {
            if (!in(what, 0, 2)) return BAD;
            int[] found = {-1, -1, 0};
            for (int p = 7; p >= 0; p--) {
                for (int h = 7; h >= 0; h--) {
                    int n = asked(p, h);
                    if (n > 0 && n >= found[2]) found = new int[] {p, h, n};
                }
            }
            return found[what];
        }

        int likeness(int d, int h) {
            int can = can(d, h);
            if (can != 1) return can == 0 ? NOT : BAD;
            Deed e = deeds().get(d);
            int place = rules()[e.kind][2] * 4;
            int like = sky[h] == e.wet || turned(e, h) ? 3 : 0;
            return place + like + (int) Math.floor(3.0 * coming(e, h).size() / e.there.size());
        }

        static long lowest(long above, long below, int what) {
            for (long by = below; by > 1; by--) {
                if (above % by == 0 && below % by == 0) return (what == 0 ? above : below) / by;
            }
            return what == 0 ? above : below;
        }

        long odds(int d, int h, int what) {
            if (!in(what, 0, 1) || can(d, h) == BAD) return Long.MIN_VALUE + 2;
            if (can(d, h) == 0) return Long.MIN_VALUE + 3;
            if (likeness(d, h) >= settings[3]) return 1;
            long above = 1;
            long below = 1;
            for (int p : coming(deeds().get(d), h)) {
                above *= 16 - people[p][3];
                below *= 16;
            }
            return lowest(above, below, what);
        }

        int seen(int p, int place, int h) {
            if (!in(p, 0, 7) || !in(place, 0, 5) || !in(h, 0, 7)) return BAD;
            if (seen.size() == 10) return FULL;
            seen.add(new int[] {p, place, h});
            return seen.size() - 1;
        }

        boolean clash(int a, int b) {
            int[] s = seen.get(a);
            int[] t = seen.get(b);
            if (s[0] != t[0]) return false;
            if (s[2] == t[2]) return s[1] != t[1];
            return (s[2] == t[2] + 1 || t[2] == s[2] + 1) && (s[1] > t[1] + 2 || t[1] > s[1] + 2);
        }

        int isFalse(int a, int b) {
            if (!in(a, 0, seen.size() - 1) || !in(b, 0, seen.size() - 1) || a == b) return BAD;
            return clash(a, b) ? 1 : 0;
        }

        int hats(int what) {
            if (!in(what, 0, 1)) return BAD;
            int found = -1;
            for (int bits = (1 << seen.size()) - 1; bits >= 0; bits--) {
                boolean good = true;
                for (int a = 0; a < seen.size(); a++) {
                    for (int b = 0; b < a; b++) {
                        good &= !clash(a, b) || (bits >> a & 1) == 1 || (bits >> b & 1) == 1;
                    }
                }
                if (good && (found < 0 || Integer.bitCount(bits) <= Integer.bitCount(found))) found = bits;
            }
            return what == 0 ? Integer.bitCount(found) : found;
        }

        int after(int d, int e) {
            if (!in(d, 0, 7) || !in(e, 0, 7) || d == e) return BAD;
            if (pairs.size() == 10) return FULL;
            pairs.add(new int[] {d, e});
            return pairs.size();
        }

        int forget(int what) {
            if (!in(what, 0, 1)) return BAD;
            List<int[]> which = what == 0 ? seen : pairs;
            int had = which.size();
            which.clear();
            return had;
        }

        void walk(int d, boolean[] met) {
            for (int[] pair : pairs) {
                if (pair[0] == d && pair[1] < met.length && !met[pair[1]]) {
                    met[pair[1]] = true;
                    walk(pair[1], met);
                }
            }
        }

        int spared(int set) {
            List<Deed> all = deeds();
            if (!in(set, 0, (1 << all.size()) - 1)) return BAD;
            boolean[] met = new boolean[all.size()];
            for (int d = 0; d < all.size(); d++) {
                if ((set >> d & 1) == 1) walk(d, met);
            }
            int sum = 0;
            for (int d = 0; d < all.size(); d++) sum += met[d] && (set >> d & 1) == 0 ? all.get(d).worth : 0;
            return sum;
        }

        int best() {
            int found = -1;
            for (int d = deeds().size() - 1; d >= 0; d--) {
                if (found < 0 || deed(d, 3) + spared(1 << d) >= deed(found, 3) + spared(1 << found)) found = d;
            }
            return found;
        }

        /** Counts the sets of m deeds and those of them that are hopeless. */
        long regrets(int n, int what) {
            if (!in(n, 0, 8) || !in(what, 0, 1)) return Long.MIN_VALUE + 2;
            int all = deeds().size();
            if (n > all) return Long.MIN_VALUE + 3;
            int hopeless = 0;
            for (int d = 0; d < all; d++) hopeless |= hours(d) == 0 ? 1 << d : 0;
            long above = 0;
            long below = 0;
            for (int set = 0; set < 1 << all; set++) {
                if (Integer.bitCount(set) != n) continue;
                below++;
                above += (set & ~hopeless) == 0 ? 1 : 0;
            }
            return lowest(above, below, what);
        }

        int sheet(int s, int form, int n) {
            if (!in(s, 0, 3) || !in(form, 0, 2) || n > 60) return BAD;
            if (n < 0) return find(5);
            sheets[s] = new int[n];
            forms[s] = form;
            return n;
        }

        int lose(int s) {
            if (!in(s, 0, 3)) return BAD;
            if (sheets[s] == null) return find(1);
            int had = sheets[s].length;
            sheets[s] = null;
            return had;
        }

        int fit(int form, int v) {
            return form == 0 ? v << 24 >> 24 : form == 1 ? v << 16 >> 16 : v;
        }

        int put(int s, int form, int i, int v) {
            if (!in(s, 0, 3) || !in(form, 0, 2)) return BAD;
            if (sheets[s] == null) return find(1);
            if (forms[s] != form) return find(3);
            if (!in(i, 0, sheets[s].length - 1)) return find(2);
            sheets[s][i] = fit(form, v);
            return 1;
        }

        int get(int s, int form, int i) {
            if (!in(s, 0, 3) || !in(form, 0, 2)) return Integer.MIN_VALUE;
            if (sheets[s] == null) find(1);
            else if (forms[s] != form) find(3);
            else if (!in(i, 0, sheets[s].length - 1)) find(2);
            else return sheets[s][i];
            return Integer.MIN_VALUE;
        }

        int copy(int s, int i, int t, int j, int n) {
            if (!in(s, 0, 3) || !in(t, 0, 3)) return BAD;
            if (sheets[s] == null || sheets[t] == null) return find(1);
            if (forms[s] != forms[t]) return find(4);
            if (i < 0 || j < 0 || n < 0 || (long) i + n > sheets[s].length || (long) j + n > sheets[t].length) return find(2);
            int[] were = sheets[s].clone();
            for (int k = 0; k < n; k++) sheets[t][j + k] = were[i + k];
            return 1;
        }

        int write(int s) {
            if (!in(s, 0, 3)) return BAD;
            if (sheets[s] == null) return find(1);
            int n = Math.min(sheets[s].length, deeds().size());
            for (int d = 0; d < n; d++) sheets[s][d] = when(d);
            return n;
        }

        int count(int what) {
            switch (what) {
                case 0: return deeds().size();
                case 1: return text[0].length();
                case 2: return text[1].length();
                case 3: return text[1].length() == 0 || fault(1) >= 0 ? 0 : text[1].toString().split(";").length;
                case 4: return seen.size();
                case 5: return pairs.size();
                case 6: return deeds().stream().mapToInt(Deed::worth).sum();
                case 7: return Arrays.stream(sky).sum();
                case 8: return latest;
                default: return BAD;
            }
        }

        long digest() {
            List<Long> told = new ArrayList<>();
            for (int i = 0; i < 8; i++) told.add((long) count(i));
            told.addAll(List.of((long) fault(0), (long) fault(1)));
            for (int d = 0; d < deeds().size(); d++) {
                for (int i = 0; i < 5; i++) told.add((long) deed(d, i));
                told.addAll(List.of((long) hours(d), (long) costs(d, 2), (long) likeness(d, 2), odds(d, 2, 0), odds(d, 2, 1)));
                told.addAll(List.of((long) when(d), (long) spared(1 << d)));
            }
            for (int k = 0; k < 4; k++) {
                for (int i = 0; i < 3; i++) told.add((long) rule(k, i));
            }
            told.addAll(List.of((long) most(0), (long) most(1), (long) crowd(0), (long) crowd(1), (long) crowd(2)));
            told.addAll(List.of((long) hats(0), (long) hats(1), (long) best(), regrets(2, 0), regrets(2, 1)));
            long h = 17;
            for (long v : told) h = 31 * h + v;
            return h;
        }
    }
}
