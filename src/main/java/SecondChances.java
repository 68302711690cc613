/**
 * A fair of second chances: on the last night of the year a deed may be done over, once, before
 * the same people, if they will come. ../shared/DOC.md has the numbered promises.
 *
 * All rows are made with the object and used again, so that no call makes anything.
 */
public final class SecondChances {
    public static final int NONE = -1, BAD = -2, NOT = -3, FULL = -4;

    private static final int KINDS = 4, PLACES = 6, PEOPLE = 8, HOURS = 8, DEEDS = 8;
    private static final int DEED_BYTES = 80, RULE_BYTES = 40;
    private static final int NULL = 1, INDEX = 2, CAST = 3, STORE = 4, SIZE = 5;
    private static final int LEAST_INT = 1 << 31;
    private static final long LEAST_LONG = 1L << 63;

    private final Planner planner = new Planner();
    private final Offers offers = planner.offers;
    private final DeedList deedList = offers.deeds;
    private final RuleBook ruleBook = offers.rules;
    private final Night night = offers.night;
    private final Sightings sightings = new Sightings();
    private final Pairs pairs = new Pairs();
    private final Sheets sheets = new Sheets();
    private final int[] draft = new int[DEEDS];
    private boolean offersStale = true;
    private boolean planStale = true;

    public SecondChances() {
    }

    // ---- deeds, rules

    public int type(int text, int b) {
        if (!within(text, 1) || !within(b, 255)) {
            return BAD;
        }
        if (text == 0 ? deedList.bytes >= DEED_BYTES : ruleBook.bytes >= RULE_BYTES) {
            return FULL;
        }
        nightChanged();
        return text == 0 ? deedList.take(b) : ruleBook.take(b);
    }

    public int wipe(int text) {
        if (!within(text, 1)) {
            return BAD;
        }
        nightChanged();
        return text == 0 ? deedList.clear() : ruleBook.clear();
    }

    public int fault(int text) {
        if (!within(text, 1)) {
            return BAD;
        }
        return text == 0 ? deedList.flaw : ruleBook.flaw;
    }

    public int deed(int deed, int what) {
        if (!isDeed(deed) || !within(what, 4)) {
            return BAD;
        }
        switch (what) {
            case 0:
                return deedList.kind[deed];
            case 1:
                return deedList.place[deed];
            case 2:
                return deedList.wet[deed];
            case 3:
                return deedList.worth[deed];
            default:
                return deedList.there[deed];
        }
    }

    public int rule(int kind, int what) {
        if (!within(kind, KINDS - 1) || !within(what, 2)) {
            return BAD;
        }
        if (what == 0) {
            return ruleBook.needOf(kind);
        }
        boolean asks = what == 1 ? ruleBook.asksWeather(kind) : ruleBook.asksPlace(kind);
        return asks ? 1 : 0;
    }

    public int person(int person, int what, int v) {
        if (!within(person, PEOPLE - 1) || !within(what, 3) || !within(v, Night.TRAIT_MOST[what])) {
            return BAD;
        }
        nightChanged();
        return night.changeTrait(person, what, v);
    }

    public int weather(int hour, int v) {
        if (!within(hour, HOURS - 1) || !within(v, 1)) {
            return BAD;
        }
        nightChanged();
        return night.changeSky(hour, v);
    }

    public int set(int what, int v) {
        if (!within(what, 3) || !within(v, Night.SETTING_MOST[what])) {
            return BAD;
        }
        nightChanged();
        return night.changeSetting(what, v);
    }

    public int read(int s) {
        if (!Sheets.isNumber(s)) {
            return BAD;
        }
        if (sheets.isLost(s)) {
            return sheets.tell(NULL);
        }
        nightChanged();
        int most = Math.min(HOURS, sheets.size[s]);
        for (int h = 0; h < most; h++) {
            int v = sheets.rows[s][h];
            if (!within(v, 1)) {
                return h;
            }
            night.sky[h] = v;
        }
        return most;
    }

    // ---- the night

    public int can(int deed, int hour) {
        if (!isDeed(deed) || !within(hour, HOURS - 1)) {
            return BAD;
        }
        reckonOffers();
        return offers.isOpen(deed, hour) ? 1 : 0;
    }

    public int hours(int deed) {
        if (!isDeed(deed)) {
            return BAD;
        }
        reckonOffers();
        return offers.openHours(deed);
    }

    public int comes(int deed, int hour) {
        if (!isDeed(deed) || !within(hour, HOURS - 1)) {
            return BAD;
        }
        reckonOffers();
        return offers.isOpen(deed, hour) ? offers.whoComes(deed, hour) : NOT;
    }

    public int costs(int deed, int hour) {
        if (!isDeed(deed) || !within(hour, HOURS - 1)) {
            return BAD;
        }
        reckonOffers();
        return offers.isOpen(deed, hour) ? offers.fullPrice(deed, hour) : NOT;
    }

    public int most(int what) {
        if (!within(what, 1)) {
            return BAD;
        }
        reckonPlan();
        return what == 0 ? planner.worth : planner.cost;
    }

    public int when(int deed) {
        if (!isDeed(deed)) {
            return BAD;
        }
        reckonPlan();
        return planner.row[deed];
    }

    public int plan(int s, int what) {
        if (!Sheets.isNumber(s) || !within(what, 2)) {
            return BAD;
        }
        if (sheets.isLost(s)) {
            return sheets.tell(NULL);
        }
        reckonOffers();
        if (sheets.size[s] < deedList.size) {
            return NOT;
        }
        for (int d = 0; d < deedList.size; d++) {
            draft[d] = sheets.rows[s][d];
        }
        boolean holds = offers.isPlan(draft);
        if (what == 0) {
            return holds ? 1 : 0;
        }
        if (!holds) {
            return NOT;
        }
        return what == 1 ? offers.worthOfPlan(draft) : offers.costOfPlan(draft);
    }

    // ---- crowds, likeness

    public int asked(int person, int hour) {
        if (!within(person, PEOPLE - 1) || !within(hour, HOURS - 1)) {
            return BAD;
        }
        reckonOffers();
        return offers.timesAsked(person, hour);
    }

    public int crowd(int what) {
        if (!within(what, 2)) {
            return BAD;
        }
        reckonOffers();
        int who = NONE;
        int then = NONE;
        int greatest = 0;
        for (int p = 0; p < PEOPLE; p++) {
            for (int h = 0; h < HOURS; h++) {
                int times = offers.timesAsked(p, h);
                if (times > greatest) {
                    who = p;
                    then = h;
                    greatest = times;
                }
            }
        }
        if (what == 0) {
            return who;
        }
        return what == 1 ? then : greatest;
    }

    public int likeness(int deed, int hour) {
        if (!isDeed(deed) || !within(hour, HOURS - 1)) {
            return BAD;
        }
        reckonOffers();
        return offers.isOpen(deed, hour) ? offers.tenths(deed, hour) : NOT;
    }

    public long odds(int deed, int hour, int what) {
        if (!isDeed(deed) || !within(hour, HOURS - 1) || !within(what, 1)) {
            return refusal(BAD);
        }
        reckonOffers();
        if (!offers.isOpen(deed, hour)) {
            return refusal(NOT);
        }
        int above = 1;
        int below = 1;
        if (offers.tenths(deed, hour) < night.setting[Night.ENOUGH]) {
            int who = offers.whoComes(deed, hour);
            for (int p = 0; p < PEOPLE; p++) {
                if (hasBit(who, p)) {
                    above *= 16 - night.trait(p, Night.MEMORY);
                    below *= 16;
                }
            }
        }
        return lowestTerm(above, below, what);
    }

    // ---- hats, what follows

    public int seen(int person, int place, int hour) {
        if (!within(person, PEOPLE - 1) || !within(place, PLACES - 1) || !within(hour, HOURS - 1)) {
            return BAD;
        }
        return sightings.isFull() ? FULL : sightings.add(person, place, hour);
    }

    public int isFalse(int a, int b) {
        if (!within(a, sightings.size - 1) || !within(b, sightings.size - 1) || a == b) {
            return BAD;
        }
        return sightings.clash(a, b) ? 1 : 0;
    }

    public int hats(int what) {
        if (!within(what, 1)) {
            return BAD;
        }
        int bits = sightings.fewestFalse();
        return what == 0 ? Integer.bitCount(bits) : bits;
    }

    public int after(int deed, int then) {
        if (!within(deed, DEEDS - 1) || !within(then, DEEDS - 1) || deed == then) {
            return BAD;
        }
        return pairs.isFull() ? FULL : pairs.add(deed, then);
    }

    public int forget(int what) {
        if (!within(what, 1)) {
            return BAD;
        }
        return what == 0 ? sightings.clear() : pairs.clear();
    }

    public int spared(int deeds) {
        if (!within(deeds, deedList.allBits())) {
            return BAD;
        }
        return sparedBy(deeds);
    }

    public int best() {
        int found = NONE;
        int greatest = 0;
        for (int d = 0; d < deedList.size; d++) {
            int gain = deedList.worth[d] + sparedBy(1 << d);
            if (gain > greatest) {
                found = d;
                greatest = gain;
            }
        }
        return found;
    }

    public long regrets(int m, int what) {
        if (!within(m, DEEDS) || !within(what, 1)) {
            return refusal(BAD);
        }
        reckonOffers();
        if (m > deedList.size) {
            return refusal(NOT);
        }
        int hopeless = deedList.size - Integer.bitCount(offers.hopefulDeeds());
        int above = 1;
        int below = 1;
        for (int i = 0; i < m; i++) {
            above *= Math.max(0, hopeless - i);
            below *= deedList.size - i;
        }
        return lowestTerm(above, below, what);
    }

    // ---- sheets

    public int sheet(int s, int form, int n) {
        if (!Sheets.isNumber(s) || !Sheets.isForm(form) || n > Sheets.ITEMS) {
            return BAD;
        }
        return n < 0 ? sheets.tell(SIZE) : sheets.renew(s, form, n);
    }

    public int lose(int s) {
        if (!Sheets.isNumber(s)) {
            return BAD;
        }
        return sheets.isLost(s) ? sheets.tell(NULL) : sheets.drop(s);
    }

    public int put(int s, int form, int i, int v) {
        if (!Sheets.isNumber(s) || !Sheets.isForm(form)) {
            return BAD;
        }
        int finding = sheets.findingAt(s, form, i);
        if (finding != 0) {
            return sheets.tell(finding);
        }
        sheets.store(s, i, v);
        return 1;
    }

    public int get(int s, int form, int i) {
        if (!Sheets.isNumber(s) || !Sheets.isForm(form)) {
            return LEAST_INT;
        }
        int finding = sheets.findingAt(s, form, i);
        if (finding != 0) {
            sheets.tell(finding);
            return LEAST_INT;
        }
        return sheets.rows[s][i];
    }

    public int copy(int s, int i, int t, int j, int n) {
        if (!Sheets.isNumber(s) || !Sheets.isNumber(t)) {
            return BAD;
        }
        if (sheets.isLost(s) || sheets.isLost(t)) {
            return sheets.tell(NULL);
        }
        if (sheets.form[s] != sheets.form[t]) {
            return sheets.tell(STORE);
        }
        if (!sheets.hasSpan(s, i, n) || !sheets.hasSpan(t, j, n)) {
            return sheets.tell(INDEX);
        }
        System.arraycopy(sheets.rows[s], i, sheets.rows[t], j, n);
        return 1;
    }

    public int write(int s) {
        if (!Sheets.isNumber(s)) {
            return BAD;
        }
        if (sheets.isLost(s)) {
            return sheets.tell(NULL);
        }
        reckonPlan();
        int most = Math.min(sheets.size[s], deedList.size);
        for (int d = 0; d < most; d++) {
            sheets.store(s, d, planner.row[d]);
        }
        return most;
    }

    public int count(int what) {
        switch (what) {
            case 0:
                return deedList.size;
            case 1:
                return deedList.bytes;
            case 2:
                return ruleBook.bytes;
            case 3:
                return ruleBook.parts;
            case 4:
                return sightings.size;
            case 5:
                return pairs.size;
            case 6:
                return deedList.worthOf(deedList.allBits());
            case 7:
                return night.rainyHours();
            case 8:
                return sheets.latestFinding;
            default:
                return BAD;
        }
    }

    public long digest() {
        long h = 17;
        for (int i = 0; i <= 7; i++) {
            h = mix(h, count(i));
        }
        h = mix(mix(h, fault(0)), fault(1));
        for (int d = 0; d < deedList.size; d++) {
            h = mixDeed(h, d);
            h = mix(h, when(d));
            h = mix(h, spared(1 << d));
        }
        for (int k = 0; k < KINDS; k++) {
            for (int what = 0; what <= 2; what++) {
                h = mix(h, rule(k, what));
            }
        }
        h = mix(mix(h, most(0)), most(1));
        h = mix(mix(mix(h, crowd(0)), crowd(1)), crowd(2));
        h = mix(mix(h, hats(0)), hats(1));
        h = mix(h, best());
        return mix(mix(h, regrets(2, 0)), regrets(2, 1));
    }

    private long mixDeed(long before, int d) {
        long h = before;
        for (int what = 0; what <= 4; what++) {
            h = mix(h, deed(d, what));
        }
        h = mix(h, hours(d));
        h = mix(h, costs(d, 2));
        h = mix(h, likeness(d, 2));
        return mix(mix(h, odds(d, 2, 0)), odds(d, 2, 1));
    }

    private static long mix(long h, long v) {
        return 31 * h + v;
    }

    private static boolean within(int v, int most) {
        return v >= 0 && v <= most;
    }

    private static boolean hasBit(int bits, int i) {
        return (bits >> i & 1) != 0;
    }

    private static int kindOf(int b) {
        switch (b) {
            case 'p':
                return 0;
            case 'r':
                return 1;
            case 't':
                return 2;
            case 's':
                return 3;
            default:
                return NONE;
        }
    }

    private static int figureOf(int b, int least, int most) {
        int v = b - '0';
        return v >= least && v <= most ? v : NONE;
    }

    private static long refusal(int answer) {
        return LEAST_LONG - answer;
    }

    /** The part above (0) or below (1) of a fraction in lowest terms. */
    private static long lowestTerm(int above, int below, int what) {
        int common = below;
        int rest = above;
        for (int step = 0; step < 64 && rest != 0; step++) {
            int next = common % rest;
            common = rest;
            rest = next;
        }
        if (common == 0) {
            return what == 0 ? above : below;
        }
        return what == 0 ? above / common : below / common;
    }

    private boolean isDeed(int deed) {
        return within(deed, deedList.size - 1);
    }

    private int sparedBy(int deeds) {
        return deedList.worthOf(pairs.reached(deeds, deedList.allBits()) & ~deeds);
    }

    private void nightChanged() {
        offersStale = true;
        planStale = true;
    }

    private void reckonOffers() {
        if (offersStale) {
            offers.reckon();
            offersStale = false;
        }
    }

    private void reckonPlan() {
        reckonOffers();
        if (planStale) {
            planner.reckon();
            planStale = false;
        }
    }

    /**
     * The deeds of text 0, taken byte by byte. No call asks for a byte again, so the text itself
     * is not kept, only how far it went well and what it says.
     */
    private static final class DeedList {
        private static final int KIND = 0, PLACE = 1, SKY = 2, WORTH = 3, WHO = 4;

        final int[] kind = new int[DEEDS];
        final int[] place = new int[DEEDS];
        final int[] wet = new int[DEEDS];
        final int[] worth = new int[DEEDS];
        final int[] there = new int[DEEDS];
        int bytes;
        int size;
        int flaw = NONE;
        private int now;
        private int step;
        private int broken = NONE;

        int take(int b) {
            if (broken == NONE && !goesOn(b)) {
                broken = bytes;
            }
            bytes++;
            boolean ended = now < DEEDS && step == WHO && there[now] != 0;
            flaw = broken != NONE || ended ? broken : bytes;
            size = flaw == NONE ? now + 1 : 0;
            return bytes;
        }

        int clear() {
            int had = bytes;
            bytes = 0;
            size = 0;
            flaw = NONE;
            now = 0;
            step = KIND;
            broken = NONE;
            return had;
        }

        private boolean goesOn(int b) {
            if (now >= DEEDS) {
                return false;
            }
            switch (step) {
                case KIND:
                    there[now] = 0;
                    return takeInto(kind, kindOf(b));
                case PLACE:
                    return takeInto(place, figureOf(b, 0, PLACES - 1));
                case SKY:
                    return takeInto(wet, b == 'r' ? 1 : b == 'd' ? 0 : NONE);
                case WORTH:
                    return takeInto(worth, figureOf(b, 1, 9));
                default:
                    return takeWho(b);
            }
        }

        private boolean takeInto(int[] row, int v) {
            if (v == NONE) {
                return false;
            }
            row[now] = v;
            step++;
            return true;
        }

        private boolean takeWho(int b) {
            if (b == ';' && there[now] != 0) {
                now++;
                step = KIND;
                return true;
            }
            int p = b - 'A';
            if (!within(p, PEOPLE - 1) || hasBit(there[now], p)) {
                return false;
            }
            there[now] |= 1 << p;
            return true;
        }

        int allBits() {
            return (1 << size) - 1;
        }

        int worthOf(int deeds) {
            int sum = 0;
            for (int d = 0; d < size; d++) {
                if (hasBit(deeds, d)) {
                    sum += worth[d];
                }
            }
            return sum;
        }
    }

    /**
     * The RULES of text 1, taken byte by byte, a row for each KIND. The rows hold what was said
     * up to now; with a FAULT they tell nothing.
     */
    private static final class RuleBook {
        private static final int KIND = 0, MANY = 1, BEHIND_MANY = 2, BEHIND_W = 3, BEHIND_H = 4;

        int bytes;
        int parts;
        int flaw = NONE;
        private final int[] need = new int[KINDS];
        private final boolean[] weather = new boolean[KINDS];
        private final boolean[] place = new boolean[KINDS];
        private int begun;
        private int kind;
        private int step;
        private int broken = NONE;

        int take(int b) {
            if (broken == NONE && !goesOn(b)) {
                broken = bytes;
            }
            bytes++;
            boolean ended = step >= BEHIND_MANY;
            flaw = broken != NONE || ended ? broken : bytes;
            parts = flaw == NONE ? begun : 0;
            return bytes;
        }

        int clear() {
            int had = bytes;
            bytes = 0;
            parts = 0;
            flaw = NONE;
            begun = 0;
            step = KIND;
            broken = NONE;
            for (int k = 0; k < KINDS; k++) {
                say(k, 0);
            }
            return had;
        }

        private boolean goesOn(int b) {
            switch (step) {
                case KIND:
                    return takeKind(kindOf(b));
                case MANY:
                    return takeMany(figureOf(b, 0, 4));
                default:
                    return takeMark(b);
            }
        }

        private boolean takeKind(int k) {
            if (k == NONE) {
                return false;
            }
            kind = k;
            step = MANY;
            return true;
        }

        private boolean takeMany(int many) {
            if (many == NONE) {
                return false;
            }
            say(kind, many);
            begun++;
            step = BEHIND_MANY;
            return true;
        }

        private boolean takeMark(int b) {
            if (b == ';') {
                step = KIND;
                return true;
            }
            if (b == 'w' && step < BEHIND_W) {
                weather[kind] = true;
                step = BEHIND_W;
                return true;
            }
            if (b == 'h' && step < BEHIND_H) {
                place[kind] = true;
                step = BEHIND_H;
                return true;
            }
            return false;
        }

        private void say(int k, int many) {
            need[k] = many;
            weather[k] = false;
            place[k] = false;
        }

        int needOf(int k) {
            return flaw == NONE ? need[k] : 0;
        }

        boolean asksWeather(int k) {
            return flaw == NONE && weather[k];
        }

        boolean asksPlace(int k) {
            return flaw == NONE && place[k];
        }
    }

    /** PEOPLE, WEATHER and what is set. */
    private static final class Night {
        static final int FROM = 0, UP_TO = 1, PRICE = 2, MEMORY = 3, TRAITS = 4;
        static final int RAIN = 0, MADE = 1, PURSE = 2, ENOUGH = 3, SETTINGS = 4;
        static final int[] TRAIT_MOST = {7, 8, 99, 16};
        static final int[] SETTING_MOST = {99, 1, 999, 10};

        final int[] traits = new int[PEOPLE * TRAITS];
        final int[] sky = new int[HOURS];
        final int[] setting = new int[SETTINGS];

        Night() {
            for (int p = 0; p < PEOPLE; p++) {
                traits[p * TRAITS + UP_TO] = HOURS;
                traits[p * TRAITS + PRICE] = 1;
                traits[p * TRAITS + MEMORY] = 16;
            }
            setting[RAIN] = 9;
            setting[PURSE] = 999;
            setting[ENOUGH] = 6;
        }

        int trait(int p, int what) {
            return traits[p * TRAITS + what];
        }

        int changeTrait(int p, int what, int v) {
            int was = traits[p * TRAITS + what];
            traits[p * TRAITS + what] = v;
            return was;
        }

        int changeSky(int h, int v) {
            int was = sky[h];
            sky[h] = v;
            return was;
        }

        int changeSetting(int what, int v) {
            int was = setting[what];
            setting[what] = v;
            return was;
        }

        boolean isHere(int p, int h) {
            return h >= traits[p * TRAITS + FROM] && h < traits[p * TRAITS + UP_TO];
        }

        int rainyHours() {
            int sum = 0;
            for (int h = 0; h < HOURS; h++) {
                sum += sky[h];
            }
            return sum;
        }
    }

    /** For each deed and HOUR: who COMES, and for what; and what a PLAN makes of it. */
    private static final class Offers {
        final DeedList deeds = new DeedList();
        final RuleBook rules = new RuleBook();
        final Night night = new Night();
        private final int[] need = new int[DEEDS];
        private final boolean[] asksWeather = new boolean[DEEDS];
        private final boolean[] asksPlace = new boolean[DEEDS];
        private final int[] who = new int[DEEDS * HOURS];
        private final int[] price = new int[DEEDS * HOURS];
        private final int[] byPrice = new int[PEOPLE];

        void reckon() {
            sortByPrice();
            for (int d = 0; d < deeds.size; d++) {
                applyRule(d);
                for (int h = 0; h < HOURS; h++) {
                    reckonOne(d, h);
                }
            }
        }

        private void applyRule(int d) {
            int kind = deeds.kind[d];
            need[d] = Math.min(rules.needOf(kind), Integer.bitCount(deeds.there[d]));
            asksWeather[d] = rules.asksWeather(kind);
            asksPlace[d] = rules.asksPlace(kind);
        }

        /** Whoever has a lesser number goes in first, and stays ahead of those with a like PRICE. */
        private void sortByPrice() {
            for (int p = 0; p < PEOPLE; p++) {
                int i = p;
                while (i > 0 && night.trait(byPrice[i - 1], Night.PRICE) > night.trait(p, Night.PRICE)) {
                    byPrice[i] = byPrice[i - 1];
                    i--;
                }
                byPrice[i] = p;
            }
        }

        private void reckonOne(int d, int h) {
            int there = deeds.there[d];
            int lacking = need[d];
            int come = 0;
            int sum = 0;
            for (int i = 0; i < PEOPLE && lacking > 0; i++) {
                int p = byPrice[i];
                if (hasBit(there, p) && night.isHere(p, h)) {
                    come |= 1 << p;
                    sum += night.trait(p, Night.PRICE);
                    lacking--;
                }
            }
            boolean skyFits = !isTurned(d, h) || night.setting[Night.MADE] == 1;
            who[d * HOURS + h] = lacking == 0 && skyFits ? come : NONE;
            price[d * HOURS + h] = sum;
        }

        boolean isOpen(int d, int h) {
            return who[d * HOURS + h] != NONE;
        }

        int whoComes(int d, int h) {
            return who[d * HOURS + h];
        }

        int priceOfPeople(int d, int h) {
            return price[d * HOURS + h];
        }

        int fullPrice(int d, int h) {
            return priceOfPeople(d, h) + (isTurned(d, h) ? night.setting[Night.RAIN] : 0);
        }

        int openHours(int d) {
            int bits = 0;
            for (int h = 0; h < HOURS; h++) {
                if (isOpen(d, h)) {
                    bits |= 1 << h;
                }
            }
            return bits;
        }

        int hopefulDeeds() {
            int bits = 0;
            for (int d = 0; d < deeds.size; d++) {
                if (openHours(d) != 0) {
                    bits |= 1 << d;
                }
            }
            return bits;
        }

        int timesAsked(int p, int h) {
            int sum = 0;
            for (int d = 0; d < deeds.size; d++) {
                if (isOpen(d, h) && hasBit(whoComes(d, h), p)) {
                    sum++;
                }
            }
            return sum;
        }

        int tenths(int d, int h) {
            int sum = asksPlace[d] ? 4 : 0;
            if (asksWeather[d] || deeds.wet[d] == night.sky[h]) {
                sum += 3;
            }
            int there = Integer.bitCount(deeds.there[d]);
            return there == 0 ? sum : sum + 3 * Integer.bitCount(whoComes(d, h)) / there;
        }

        boolean isTurned(int d, int h) {
            return asksWeather[d] && deeds.wet[d] != night.sky[h];
        }

        /** Whether two deeds that are open in an HOUR cannot both be done in it. */
        boolean areApart(int d, int e, int h) {
            return (who[d * HOURS + h] & who[e * HOURS + h]) != 0
                || asksPlace[d] && asksPlace[e] && deeds.place[d] == deeds.place[e]
                || asksWeather[d] && asksWeather[e] && deeds.wet[d] != deeds.wet[e];
        }

        boolean isPlan(int[] row) {
            for (int d = 0; d < deeds.size; d++) {
                if (row[d] != NONE && !fitsBehind(row, d)) {
                    return false;
                }
            }
            return true;
        }

        private boolean fitsBehind(int[] row, int d) {
            int h = row[d];
            if (!within(h, HOURS - 1) || !isOpen(d, h)) {
                return false;
            }
            for (int e = 0; e < d; e++) {
                if (row[e] == h && areApart(d, e, h)) {
                    return false;
                }
            }
            return true;
        }

        int worthOfPlan(int[] row) {
            int sum = 0;
            for (int d = 0; d < deeds.size; d++) {
                if (row[d] != NONE) {
                    sum += deeds.worth[d];
                }
            }
            return sum;
        }

        /** Only for a row that is a PLAN: RAIN is paid once for an HOUR, whoever asks for it. */
        int costOfPlan(int[] row) {
            int sum = 0;
            int turned = 0;
            for (int d = 0; d < deeds.size; d++) {
                int h = row[d];
                if (within(h, HOURS - 1)) {
                    sum += priceOfPeople(d, h);
                    turned |= isTurned(d, h) ? 1 << h : 0;
                }
            }
            return sum + Integer.bitCount(turned) * night.setting[Night.RAIN];
        }
    }

    /**
     * MOST, HOUR by HOUR over sets of deeds. A PLAN is one number, its cost ahead of its row in
     * figures to base 9 (0 is none): parts of a PLAN then add up, and the least number is the
     * cheapest PLAN and of like ones the least row.
     */
    private static final class Planner {
        private static final int SETS = 1 << DEEDS;
        private static final long ROWS = 43046721L;
        private static final long NEVER = 1L << 60;
        private static final long[] WEIGHT = {4782969, 531441, 59049, 6561, 729, 81, 9, 1};

        final int[] row = new int[DEEDS];
        int worth;
        int cost;
        final Offers offers = new Offers();
        private final long[] least = new long[SETS];
        private final long[] before = new long[SETS];
        private final long[] together = new long[SETS];
        private int all;

        /** Deeds that CAN in no HOUR are left out: each of them would treble the work. */
        void reckon() {
            all = offers.hopefulDeeds();
            least[0] = 0;
            for (int set = 1; set <= all; set++) {
                least[set] = NEVER;
            }
            for (int h = 0; h < HOURS; h++) {
                reckonTogether(h);
                joinHour(h);
            }
            choose();
        }

        private void joinHour(int h) {
            System.arraycopy(least, 0, before, 0, SETS);
            int turned = turnedBy(h);
            long rain = offers.night.setting[Night.RAIN] * ROWS;
            for (int set = 1; set <= all; set++) {
                if (together[set] < NEVER) {
                    joinWithRest(set, together[set] + ((set & turned) != 0 ? rain : 0));
                }
            }
        }

        private int turnedBy(int h) {
            int bits = 0;
            for (int d = 0; d < offers.deeds.size; d++) {
                if (offers.isTurned(d, h)) {
                    bits |= 1 << d;
                }
            }
            return bits;
        }

        /** What each set of deeds costs in one HOUR, but for RAIN: each set from one without its last. */
        private void reckonTogether(int h) {
            together[0] = 0;
            for (int d = 0; d < offers.deeds.size; d++) {
                boolean open = offers.isOpen(d, h);
                int apart = open ? apartFrom(d, h) : 0;
                long own = offers.priceOfPeople(d, h) * ROWS + (h + 1) * WEIGHT[d];
                int sets = 1 << d;
                for (int rest = 0; rest < sets; rest++) {
                    boolean fits = open && (rest & apart) == 0 && together[rest] < NEVER;
                    together[sets + rest] = fits ? together[rest] + own : NEVER;
                }
            }
        }

        private int apartFrom(int d, int h) {
            int bits = 0;
            for (int e = 0; e < d; e++) {
                if (offers.isOpen(e, h) && offers.areApart(d, e, h)) {
                    bits |= 1 << e;
                }
            }
            return bits;
        }

        /** Goes through the sets of other deeds downwards, the empty one last. */
        private void joinWithRest(int set, long own) {
            int others = all & ~set;
            int rest = others;
            for (int left = SETS; left > 0; left--) {
                if (before[rest] < NEVER && own + before[rest] < least[set | rest]) {
                    least[set | rest] = own + before[rest];
                }
                if (rest == 0) {
                    return;
                }
                rest = (rest - 1) & others;
            }
        }

        private void choose() {
            long limit = (offers.night.setting[Night.PURSE] + 1) * ROWS;
            int chosen = 0;
            worth = 0;
            for (int set = 1; set <= all; set++) {
                int itsWorth = offers.deeds.worthOf(set);
                boolean ahead = itsWorth > worth || itsWorth == worth && least[set] < least[chosen];
                if (least[set] < limit && ahead) {
                    chosen = set;
                    worth = itsWorth;
                }
            }
            cost = (int) (least[chosen] / ROWS);
            for (int d = 0; d < DEEDS; d++) {
                row[d] = (int) (least[chosen] / WEIGHT[d] % 9) - 1;
            }
        }
    }

    /** SIGHTINGS, and which of them are of false hats. */
    private static final class Sightings {
        private static final int MOST = 10;

        int size;
        private final int[] person = new int[MOST];
        private final int[] place = new int[MOST];
        private final int[] hour = new int[MOST];
        private final int[] foes = new int[MOST];
        private int hatBits;
        private boolean stale;

        boolean isFull() {
            return size >= MOST;
        }

        int add(int p, int where, int h) {
            int number = size;
            if (number < MOST) {
                person[number] = p;
                place[number] = where;
                hour[number] = h;
                size++;
                stale = true;
                meetFoes(number);
            }
            return number;
        }

        private void meetFoes(int number) {
            foes[number] = 0;
            for (int i = 0; i < number; i++) {
                if (clash(i, number)) {
                    foes[i] |= 1 << number;
                    foes[number] |= 1 << i;
                }
            }
        }

        int clear() {
            int had = size;
            size = 0;
            stale = true;
            return had;
        }

        boolean clash(int a, int b) {
            if (person[a] != person[b]) {
                return false;
            }
            int later = Math.abs(hour[a] - hour[b]);
            int further = Math.abs(place[a] - place[b]);
            return later == 0 && further > 0 || later == 1 && further > 2;
        }

        int fewestFalse() {
            if (stale) {
                hatBits = searchFewest();
                stale = false;
            }
            return hatBits;
        }

        private int searchFewest() {
            int all = (1 << size) - 1;
            int found = all;
            int fewest = size;
            for (int bits = 0; bits < all; bits++) {
                int many = Integer.bitCount(bits);
                if (many < fewest && isPeaceful(all & ~bits)) {
                    found = bits;
                    fewest = many;
                }
            }
            return found;
        }

        private boolean isPeaceful(int kept) {
            for (int i = 0; i < size; i++) {
                if (hasBit(kept, i) && (foes[i] & kept) != 0) {
                    return false;
                }
            }
            return true;
        }
    }

    /** AFTER: which deed led to which. */
    private static final class Pairs {
        private static final int MOST = 10;

        int size;
        private final int[] first = new int[MOST];
        private final int[] then = new int[MOST];

        boolean isFull() {
            return size >= MOST;
        }

        int add(int d, int e) {
            if (size < MOST) {
                first[size] = d;
                then[size] = e;
                size++;
            }
            return size;
        }

        int clear() {
            int had = size;
            size = 0;
            return had;
        }

        /** The set and all to which one comes from it by pairs of deeds that there are. */
        int reached(int from, int present) {
            int bits = from;
            for (int round = 0; round < DEEDS; round++) {
                for (int i = 0; i < size; i++) {
                    if (hasBit(bits, first[i]) && hasBit(present, first[i]) && hasBit(present, then[i])) {
                        bits |= 1 << then[i];
                    }
                }
            }
            return bits;
        }
    }

    /** SHEETS: rows of any FORM are held as ints that fit it. */
    private static final class Sheets {
        static final int MOST = 4, ITEMS = 60;

        final int[][] rows = new int[MOST][ITEMS];
        final int[] form = new int[MOST];
        final int[] size = new int[MOST];
        int latestFinding;

        Sheets() {
            for (int s = 0; s < MOST; s++) {
                form[s] = NONE;
            }
        }

        static boolean isNumber(int s) {
            return within(s, MOST - 1);
        }

        static boolean isForm(int form) {
            return within(form, 2);
        }

        boolean isLost(int s) {
            return form[s] == NONE;
        }

        int tell(int finding) {
            latestFinding = finding;
            return -10 - finding;
        }

        int renew(int s, int itsForm, int n) {
            form[s] = itsForm;
            size[s] = n;
            for (int i = 0; i < ITEMS; i++) {
                rows[s][i] = 0;
            }
            return n;
        }

        int drop(int s) {
            form[s] = NONE;
            return size[s];
        }

        /** What is found where an item is treated as of a FORM; 0: nothing. */
        int findingAt(int s, int asForm, int i) {
            if (isLost(s)) {
                return NULL;
            }
            if (form[s] != asForm) {
                return CAST;
            }
            return within(i, size[s] - 1) ? 0 : INDEX;
        }

        boolean hasSpan(int s, int i, int n) {
            return i >= 0 && n >= 0 && i <= size[s] - n;
        }

        void store(int s, int i, int v) {
            if (form[s] == 0) {
                rows[s][i] = (byte) v;
            } else if (form[s] == 1) {
                rows[s][i] = (short) v;
            } else {
                rows[s][i] = v;
            }
        }
    }
}
