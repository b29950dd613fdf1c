import java.util.Arrays;

/** Ferrymen of the fallow year, as the document tells: words in capitals there are words in capitals here. */
public final class FallowFerry {
    public static final int BAD = -1, STATE = -2, FULL = -3, NONE = -9;
    public static final int NO = -1000000;

    private static final int NOT_SO_MANY = -5;
    private static final int TEXT_MOST = 200;
    private static final int LOAD_MOST = 20;
    private static final int DAYS_MOST = 20;
    private static final int CROSSINGS_MOST = 20;
    private static final int YEARS_MOST = 50;
    private static final int SEEN_MOST = 8;
    private static final int SEEN_LAST = 5;
    private static final int IMAGES = 2;

    private final int[] text = new int[TEXT_MOST];
    private int textLength = 0;
    private final Reader reader = new Reader();
    private River told = new River();
    private River spare = new River();
    private final Moment present = new Moment();
    private final Moment[] images = new Moment[IMAGES];
    private final boolean[] kept = new boolean[IMAGES];
    private final Plans plans = new Plans();
    private final Sightings sightings = new Sightings();
    private long asked = 0;

    public FallowFerry() {
        for (int k = 0; k < IMAGES; k++) {
            images[k] = new Moment();
        }
        present.begin(told);
    }

    // ---- the river

    public int type(long v, int n) {
        if (n < 1 || n > 8) {
            return BAD;
        }
        if (textLength + n > TEXT_MOST) {
            return FULL;
        }
        for (int k = n - 1; k >= 0; k--) {
            text[textLength] = (int) (v >>> (8 * k)) & 255;
            textLength++;
        }
        return textLength;
    }

    public int clear() {
        int had = textLength;
        textLength = 0;
        return had;
    }

    public int river() {
        // Read into the spare one: behind a FAULT all must be as it was.
        int items = reader.readAll(text, textLength, spare);
        if (items < 0) {
            return items;
        }
        River read = spare;
        spare = told;
        told = read;
        textLength = 0;
        present.begin(told);
        for (int k = 0; k < IMAGES; k++) {
            kept[k] = false;
        }
        sightings.dropAll();
        return items;
    }

    public int thing(int t, int what) {
        if (!told.has(t)) {
            return BAD;
        }
        switch (what) {
            case 0: return present.bankOf(t);
            case 1: return told.wants[t];
            case 2: return told.rents[t];
            case 3: return told.weights[t];
            case 4: return told.feared[t];
            default: return BAD;
        }
    }

    public int now(int what) {
        switch (what) {
            case 0: return River.ferryOf(present.standing);
            case 1: return told.load;
            case 2: return present.days;
            case 3: return present.ice;
            case 4: return told.wrongOf(present.standing);
            case 5: return told.rentOf(present.standing);
            case 6: return told.isSafe(present.standing) ? 1 : 0;
            default: return BAD;
        }
    }

    // ---- days

    public int cross(int set) {
        if ((set & ~told.all) != 0) {
            return BAD;
        }
        int next = told.crossing(present.standing, set, told.load, told.all);
        if (next < 0 || present.days <= 0) {
            return STATE;
        }
        present.remember();
        present.standing = next;
        present.days--;
        return present.days;
    }

    public int rest() {
        if (present.days <= 0) {
            return STATE;
        }
        present.remember();
        present.days--;
        return present.days;
    }

    public int night() {
        if (present.draw() < told.frost) {
            present.freeze();
        } else {
            present.thaw();
        }
        return present.ice;
    }

    public int slide(int t) {
        if (!told.has(t)) {
            return BAD;
        }
        int next = present.standing ^ (1 << t);
        if (told.weights[t] > present.ice || !told.isSafe(next)) {
            return STATE;
        }
        present.remember();
        present.standing = next;
        return present.bankOf(t);
    }

    public int undo() {
        if (present.known <= 0) {
            return STATE;
        }
        present.recall();
        return present.known;
    }

    public int lot(int v) {
        int was = present.chance;
        present.chance = v;
        return was;
    }

    // ---- plans

    public int done(int i) {
        if (i < -1) {
            return BAD;
        }
        plans.explore(told, present.standing, told.load, told.all);
        int place = plans.firstDone(told, told.all);
        if (place < 0) {
            return NONE;
        }
        return i < 0 ? plans.stepsTo(place) : plans.setOf(place, i);
    }

    public int rent(int d, int i) {
        if (d < 0 || d > CROSSINGS_MOST || i < -1) {
            return BAD;
        }
        plans.explore(told, present.standing, told.load, told.all);
        int place = plans.leastRent(told, d);
        return i < 0 ? told.rentOf(plans.standingAt(place)) : plans.setOf(place, i);
    }

    public int least() {
        if (crossingsTill(LOAD_MOST, told.all) < 0) {
            return NONE;
        }
        // What can be DONE by a LOAD can be DONE by a greater one, so halving finds the least.
        int low = 1;
        int high = LOAD_MOST;
        for (int k = 0; k < LOAD_MOST && low < high; k++) {
            int middle = (low + high) / 2;
            if (crossingsTill(middle, told.all) < 0) {
                low = middle + 1;
            } else {
                high = middle;
            }
        }
        return low;
    }

    public int sooner(int t) {
        if (!told.has(t)) {
            return NO;
        }
        int with = crossingsTill(told.load, told.all);
        if (with < 0) {
            return NO;
        }
        int without = crossingsTill(told.load, told.all & ~(1 << t));
        return without < 0 ? NO : with - without;
    }

    public int standings() {
        plans.explore(told, present.standing, told.load, told.all);
        return plans.found;
    }

    private int crossingsTill(int load, int there) {
        plans.explore(told, present.standing, load, there);
        int place = plans.firstDone(told, there);
        return place < 0 ? -1 : plans.stepsTo(place);
    }

    // ---- what was seen, what is owed

    public int saw(int c, int t, int bank) {
        if (c < 0 || c > SEEN_LAST || !told.has(t) || bank < 0 || bank > 1) {
            return BAD;
        }
        if (sightings.size >= SEEN_MOST) {
            return FULL;
        }
        sightings.add(c, t, bank);
        return sightings.size;
    }

    public int forget() {
        int had = sightings.size;
        sightings.dropAll();
        return had;
    }

    public long fits(int n, int c) {
        if (n < 0 || n > SEEN_LAST || c < 0 || c > n) {
            return BAD;
        }
        sightings.follow(told, n);
        return c == 0 ? sightings.waysOf(n) : sightings.aboard(told, n, c);
    }

    public long owed(int t, int y) {
        if (!told.has(t) || y < 0 || y > YEARS_MOST) {
            return BAD;
        }
        if ((told.wrongOf(present.standing) & (1 << t)) == 0) {
            return 0;
        }
        long owes = 0;
        for (int k = 0; k < y; k++) {
            owes += owes / 10 + told.rents[t];
        }
        return owes;
    }

    // ---- kinds, images

    public int mark(int kind, int t) {
        if (!told.has(t)) {
            return NO;
        }
        switch (kind) {
            case 0: return markThing(t);
            case 1: return markCow(t);
            case 2: return markBride(t);
            case 3: return markTwin(t);
            case 4: return markBishop(t);
            case 5: return markBoot(t);
            default: return NO;
        }
    }

    private int markThing(int t) {
        asked += 1;
        return told.has(t) ? told.rents[t] : 0;
    }

    private int markCow(int t) {
        asked += 10;
        return markThing(t) + (told.has(t) ? told.weights[t] : 0);
    }

    private int markBride(int t) {
        asked += 100;
        return markThing(t) - (told.has(t) ? Integer.bitCount(told.feared[t]) : 0);
    }

    private int markTwin(int t) {
        asked += 1000;
        return markCow(t) * 2;
    }

    private int markBishop(int t) {
        asked += 10000;
        return markBride(t) + t;
    }

    private int markBoot(int t) {
        asked += 100000;
        return markThing(t) + present.ice;
    }

    public int keep(int image) {
        if (image < 0 || image >= IMAGES) {
            return BAD;
        }
        images[image].becomeLike(present);
        kept[image] = true;
        return present.days;
    }

    public int back(int image) {
        if (image < 0 || image >= IMAGES) {
            return BAD;
        }
        if (!kept[image]) {
            return STATE;
        }
        present.becomeLike(images[image]);
        return present.days;
    }

    public int count(int what) {
        switch (what) {
            case 0: return told.things;
            case 1: return told.pairs;
            case 2: return sightings.size;
            case 3: return present.known;
            case 4: return textLength;
            default: return BAD;
        }
    }

    public long trace() {
        return asked;
    }

    /**
     * The river as it was told. A standing is one number: bits 0 .. 6 are the THINGS that are on BANK 1,
     * bit 7 is THE FERRY's BANK.
     */
    private static final class River {
        static final int THINGS_MOST = 7;
        static final int PAIRS_MOST = 8;
        static final int SETS = 1 << THINGS_MOST;
        static final int FERRY = 1 << THINGS_MOST;
        static final int STANDINGS = 2 * SETS;

        int things;
        int all;
        int pairs;
        int start;
        int load;
        int days;
        int frost;
        final int[] wants = new int[THINGS_MOST];
        final int[] rents = new int[THINGS_MOST];
        final int[] weights = new int[THINGS_MOST];
        final int[] feared = new int[THINGS_MOST];
        private int wantNear;
        private int wantFar;
        private final int[] weightOf = new int[SETS];
        private final boolean[] peaceful = new boolean[SETS];

        River() {
            beginAnew();
            settle();
        }

        void beginAnew() {
            things = 0;
            all = 0;
            pairs = 0;
            start = 0;
            load = 2;
            days = 9;
            frost = 5;
            wantNear = 0;
            wantFar = 0;
        }

        void addThing(int bank, int want, int rentAYear, int weight) {
            if (things >= THINGS_MOST) {
                return;
            }
            int bit = 1 << things;
            wants[things] = want;
            rents[things] = rentAYear;
            weights[things] = weight;
            feared[things] = 0;
            start |= bank == 1 ? bit : 0;
            wantNear |= want == 0 ? bit : 0;
            wantFar |= want == 1 ? bit : 0;
            all |= bit;
            things++;
        }

        void addPair(int a, int b) {
            if (!has(a) || !has(b)) {
                return;
            }
            feared[a] |= 1 << b;
            feared[b] |= 1 << a;
            pairs++;
        }

        void putFerry(int bank) {
            start = bank == 1 ? start | FERRY : start & ~FERRY;
        }

        /** Each set is its highest THING and a lesser set, whose answers are there already. */
        void settle() {
            weightOf[0] = 0;
            peaceful[0] = true;
            for (int t = 0; t < things && t < THINGS_MOST; t++) {
                int bit = 1 << t;
                for (int others = 0; others < bit; others++) {
                    weightOf[bit | others] = weightOf[others] + weights[t];
                    peaceful[bit | others] = peaceful[others] && (feared[t] & others) == 0;
                }
            }
        }

        boolean has(int t) {
            return t >= 0 && t < things;
        }

        static int ferryOf(int standing) {
            return (standing & FERRY) != 0 ? 1 : 0;
        }

        int atFerry(int standing) {
            return (ferryOf(standing) == 1 ? standing : ~standing) & all;
        }

        static int setsOf(int here) {
            return 1 << Integer.bitCount(here);
        }

        /** From 0 on the sets of those who are here, each greater than the one ahead: PLANS are tried in order. */
        static int nextSet(int set, int here) {
            return (set - here) & here;
        }

        boolean isSafe(int standing) {
            return peaceful[all & ~atFerry(standing)];
        }

        int wrongOf(int standing) {
            return (standing & wantNear) | (~standing & wantFar);
        }

        int rentOf(int standing) {
            int wrong = wrongOf(standing);
            int sum = 0;
            for (int t = 0; t < things; t++) {
                sum += (wrong & (1 << t)) != 0 ? rents[t] : 0;
            }
            return sum;
        }

        /** The standing behind a CROSSING of a set, if those alone are there who are told; -1: it may not be. */
        int crossing(int standing, int set, int loadThen, int there) {
            int here = atFerry(standing) & there;
            if ((set & ~here) != 0 || weightOf[set] > loadThen || !peaceful[here & ~set]) {
                return -1;
            }
            return standing ^ set ^ FERRY;
        }
    }

    /** Reads a text into a river, TOKEN by TOKEN; behind the first FAULT nothing more is read. */
    private static final class Reader {
        private static final int END = 0, NUMBER = 1, STOP = 2, FAULTY = 3;
        private static final int THING = 4, FEARS = 5, FERRY = 6, LOAD = 7, DAYS = 8, FROST = 9;

        private int[] text;
        private int length;
        // The last one is END, whose place is the text's length.
        private final int[] tokens = new int[TEXT_MOST + 1];
        private final int[] places = new int[TEXT_MOST + 1];
        private final int[] values = new int[TEXT_MOST + 1];
        private int at;
        private int fault;
        private int toldOnce;

        /** How many ITEMS, or -10 less FAULT. */
        int readAll(int[] bytes, int many, River river) {
            text = bytes;
            length = Math.min(many, TEXT_MOST);
            split();
            at = 0;
            fault = -1;
            toldOnce = 0;
            river.beginAnew();
            int items = 0;
            while (items < TEXT_MOST && fault < 0 && tokens[at] != END) {
                readItem(river);
                items++;
            }
            if (fault >= 0) {
                return -10 - fault;
            }
            river.settle();
            return items;
        }

        private void readItem(River river) {
            switch (tokens[at]) {
                case THING: readThing(river); break;
                case FEARS: readFears(river); break;
                case FERRY: river.putFerry(readOnce(0, 1)); break;
                case LOAD: river.load = readOnce(1, LOAD_MOST); break;
                case DAYS: river.days = readOnce(0, DAYS_MOST); break;
                case FROST: river.frost = readOnce(0, 9); break;
                default: fail();
            }
        }

        private void readThing(River river) {
            if (river.things >= River.THINGS_MOST) {
                fail();
                return;
            }
            advance();
            int bank = readNumber(0, 1);
            int want = readNumber(0, 2);
            int rentAYear = readNumber(0, 9);
            int weight = readNumber(1, 9);
            readStop();
            if (fault < 0) {
                river.addThing(bank, want, rentAYear, weight);
            }
        }

        private void readFears(River river) {
            if (river.pairs >= River.PAIRS_MOST) {
                fail();
                return;
            }
            advance();
            int a = readNumber(0, river.things - 1);
            if (tokens[at] == NUMBER && values[at] == a) {
                fail();
            }
            int b = readNumber(0, river.things - 1);
            readStop();
            if (fault < 0) {
                river.addPair(a, b);
            }
        }

        private int readOnce(int least, int most) {
            int bit = 1 << tokens[at];
            if ((toldOnce & bit) != 0) {
                fail();
            }
            toldOnce |= bit;
            advance();
            int number = readNumber(least, most);
            readStop();
            return number;
        }

        private int readNumber(int least, int most) {
            int number = values[at];
            if (tokens[at] != NUMBER || number < least || number > most) {
                fail();
                return least;
            }
            advance();
            return number;
        }

        private void readStop() {
            if (tokens[at] != STOP) {
                fail();
                return;
            }
            advance();
        }

        private void advance() {
            if (at < TEXT_MOST) {
                at++;
            }
        }

        /** The first FAULT stays: what is read behind it may be at a loss because of it. */
        private void fail() {
            if (fault < 0) {
                fault = places[at];
            }
        }

        private void split() {
            int many = 0;
            int start = behindBlanks(0);
            while (many < TEXT_MOST && start < length) {
                int end = endOf(start);
                places[many] = start;
                tokens[many] = tokenOf(start, end);
                values[many] = tokens[many] == NUMBER ? numberOf(start, end) : 0;
                many++;
                start = behindBlanks(end);
            }
            places[many] = length;
            tokens[many] = END;
            values[many] = 0;
        }

        private int behindBlanks(int start) {
            int end = start;
            while (end < length && byteAt(end) == ' ') {
                end++;
            }
            return end;
        }

        private int endOf(int start) {
            boolean word = isLetter(byteAt(start));
            boolean number = isDigit(byteAt(start));
            int end = start + 1;
            while (end < length && (word && isLetter(byteAt(end)) || number && isDigit(byteAt(end)))) {
                end++;
            }
            return end;
        }

        private int tokenOf(int start, int end) {
            int first = byteAt(start);
            return isLetter(first) ? wordOf(start, end) : isDigit(first) ? NUMBER : first == ';' ? STOP : FAULTY;
        }

        private int wordOf(int start, int end) {
            return spells(start, end, "thing") ? THING
                : spells(start, end, "fears") ? FEARS
                : spells(start, end, "ferry") ? FERRY
                : spells(start, end, "load") ? LOAD
                : spells(start, end, "days") ? DAYS
                : spells(start, end, "frost") ? FROST
                : FAULTY;
        }

        private boolean spells(int start, int end, String word) {
            if (end - start != word.length()) {
                return false;
            }
            for (int k = 0; k < word.length(); k++) {
                if (byteAt(start + k) != word.charAt(k)) {
                    return false;
                }
            }
            return true;
        }

        /** -1, which can stand nowhere, for one that is above 99 or has a 0 ahead: three digits are one of these. */
        private int numberOf(int start, int end) {
            int ones = byteAt(end - 1) - '0';
            if (end - start == 1) {
                return ones;
            }
            int tens = byteAt(start) - '0';
            return end - start == 2 && tens > 0 ? 10 * tens + ones : -1;
        }

        private int byteAt(int where) {
            return text != null && where >= 0 && where < length && where < text.length ? text[where] : -1;
        }

        private static boolean isLetter(int b) {
            return b >= 'a' && b <= 'z';
        }

        private static boolean isDigit(int b) {
            return b >= '0' && b <= '9';
        }
    }

    /** NOW, and what may be UNDONE. */
    private static final class Moment {
        private static final int KNOWN_MOST = 10;
        private static final int ICE_MOST = 9;

        int standing = 0;
        int days = 0;
        int ice = 0;
        int chance = 1;
        int known = 0;
        private final int[] pastStandings = new int[KNOWN_MOST];
        private final int[] pastDays = new int[KNOWN_MOST];

        /** THE LOT stays. */
        void begin(River river) {
            standing = river.start;
            days = river.days;
            ice = 0;
            known = 0;
        }

        int bankOf(int t) {
            return t >= 0 && t < River.THINGS_MOST && (standing & (1 << t)) != 0 ? 1 : 0;
        }

        int draw() {
            chance = chance * 1103515245 + 12345;
            return (chance >>> 16) % 10;
        }

        void freeze() {
            ice = Math.min(ice + 1, ICE_MOST);
        }

        void thaw() {
            ice = Math.max(ice - 1, 0);
        }

        void remember() {
            if (known >= KNOWN_MOST) {
                loseOldest();
            }
            pastStandings[known] = standing;
            pastDays[known] = days;
            known++;
        }

        private void loseOldest() {
            for (int k = 1; k < KNOWN_MOST; k++) {
                pastStandings[k - 1] = pastStandings[k];
                pastDays[k - 1] = pastDays[k];
            }
            known = KNOWN_MOST - 1;
        }

        void recall() {
            if (known <= 0) {
                return;
            }
            known--;
            standing = pastStandings[known];
            days = pastDays[known];
        }

        void becomeLike(Moment other) {
            standing = other.standing;
            days = other.days;
            ice = other.ice;
            chance = other.chance;
            known = other.known;
            for (int k = 0; k < KNOWN_MOST; k++) {
                pastStandings[k] = other.pastStandings[k];
                pastDays[k] = other.pastDays[k];
            }
        }
    }

    /**
     * The standings that can come, in the order of the first of the shortest PLANS to each: sets are tried from
     * the least on, at the standing that was found earliest, so that no PLAN that is found later goes ahead of
     * one that was found sooner.
     */
    private static final class Plans {
        int found = 0;
        private final int[] standing = new int[River.STANDINGS];
        private final int[] steps = new int[River.STANDINGS];
        private final int[] from = new int[River.STANDINGS];
        private final int[] set = new int[River.STANDINGS];
        private final boolean[] isFound = new boolean[River.STANDINGS];

        void explore(River river, int start, int load, int there) {
            found = 0;
            for (int k = 0; k < River.STANDINGS; k++) {
                isFound[k] = false;
            }
            add(start, 0, 0, 0);
            for (int place = 0; place < River.STANDINGS && place < found; place++) {
                goOn(river, place, load, there);
            }
        }

        private void goOn(River river, int place, int load, int there) {
            int here = river.atFerry(standing[place]) & there;
            int sets = River.setsOf(here);
            int those = 0;
            for (int k = 0; k < sets; k++) {
                add(river.crossing(standing[place], those, load, there), place, those, steps[place] + 1);
                those = River.nextSet(those, here);
            }
        }

        private void add(int next, int place, int those, int many) {
            if (next < 0 || next >= River.STANDINGS || isFound[next] || found >= River.STANDINGS) {
                return;
            }
            isFound[next] = true;
            standing[found] = next;
            from[found] = place;
            set[found] = those;
            steps[found] = many;
            found++;
        }

        /** The place of the first standing at which none of those that are there is WRONG, or -1. */
        int firstDone(River river, int there) {
            for (int place = 0; place < found; place++) {
                if ((river.wrongOf(standing[place]) & there) == 0) {
                    return place;
                }
            }
            return -1;
        }

        int leastRent(River river, int most) {
            int best = 0;
            for (int place = 1; place < found && steps[place] <= most; place++) {
                if (river.rentOf(standing[place]) < river.rentOf(standing[best])) {
                    best = place;
                }
            }
            return best;
        }

        int standingAt(int place) {
            return place >= 0 && place < found ? standing[place] : 0;
        }

        int stepsTo(int place) {
            return place >= 0 && place < found ? steps[place] : 0;
        }

        int setOf(int place, int i) {
            if (i < 0 || i >= stepsTo(place)) {
                return NOT_SO_MANY;
            }
            int last = place;
            for (int k = stepsTo(place) - 1; k > i; k--) {
                last = from[last];
            }
            return set[last];
        }
    }

    /** What was SEEN, and by how many PLANS each standing can have come, behind each CROSSING. */
    private static final class Sightings {
        int size = 0;
        private final int[] crossings = new int[SEEN_MOST];
        private final int[] things = new int[SEEN_MOST];
        private final int[] banks = new int[SEEN_MOST];
        private final long[][] ways = new long[SEEN_LAST + 1][River.STANDINGS];

        void add(int c, int t, int bank) {
            if (size >= SEEN_MOST) {
                return;
            }
            crossings[size] = c;
            things[size] = t;
            banks[size] = bank;
            size++;
        }

        void dropAll() {
            size = 0;
        }

        private boolean agrees(int c, int standing) {
            for (int k = 0; k < size; k++) {
                if (crossings[k] == c && ((standing >> things[k]) & 1) != banks[k]) {
                    return false;
                }
            }
            return true;
        }

        void follow(River river, int n) {
            for (int k = 0; k <= n; k++) {
                Arrays.fill(ways[k], 0L);
            }
            if (agrees(0, river.start)) {
                ways[0][river.start] = 1;
            }
            for (int k = 1; k <= n; k++) {
                for (int standing = 0; standing < River.STANDINGS; standing++) {
                    if (ways[k - 1][standing] != 0) {
                        followFrom(river, standing, k);
                    }
                }
            }
        }

        private void followFrom(River river, int standing, int k) {
            int here = river.atFerry(standing);
            int sets = River.setsOf(here);
            int set = 0;
            for (int j = 0; j < sets; j++) {
                int next = river.crossing(standing, set, river.load, river.all);
                if (next >= 0 && agrees(k, next)) {
                    ways[k][next] += ways[k - 1][standing];
                }
                set = River.nextSet(set, here);
            }
        }

        long waysOf(int n) {
            long sum = 0;
            for (int standing = 0; standing < River.STANDINGS; standing++) {
                sum += ways[n][standing];
            }
            return sum;
        }

        /** Behind follow(): goes from the n-th CROSSING back to the c-th, so that only PLANS of all n are left. */
        int aboard(River river, int n, int c) {
            int crossed = 0;
            for (int k = n; k >= c; k--) {
                crossed = keepThoseThatGoOn(river, k);
            }
            return crossed;
        }

        /** Of standings ahead of the k-th CROSSING, drops those that lead nowhere; who crosses from the others. */
        private int keepThoseThatGoOn(River river, int k) {
            int crossed = 0;
            for (int standing = 0; standing < River.STANDINGS; standing++) {
                if (ways[k - 1][standing] != 0) {
                    int those = crossedFrom(river, standing, k);
                    if (those < 0) {
                        ways[k - 1][standing] = 0;
                    } else {
                        crossed |= those;
                    }
                }
            }
            return crossed;
        }

        /** -1: no CROSSING goes on from there. */
        private int crossedFrom(River river, int standing, int k) {
            int here = river.atFerry(standing);
            int sets = River.setsOf(here);
            int those = -1;
            int set = 0;
            for (int j = 0; j < sets; j++) {
                int next = river.crossing(standing, set, river.load, river.all);
                if (next >= 0 && ways[k][next] != 0) {
                    those = Math.max(those, 0) | set;
                }
                set = River.nextSet(set, here);
            }
            return those;
        }
    }
}
