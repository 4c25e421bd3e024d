/**
 * A land whose law abolished the middle: scales with two ends, and lives that move on them.
 * Answers below 0 that are not numbers asked for are BAD, STATE, FULL, NONE, NO or UNCLEAR.
 */
public final class NoBetweens {
    public static final int BAD = -1, STATE = -2, FULL = -3, NONE = -9;
    public static final int NO = -1000000;

    private static final int UNCLEAR = -5;
    private static final int FAULTY = -10;

    private static final int LOW = 0, HIGH = 1, BOTH = 2, NOWHERE = 3;
    private static final int JUMP = 0, FORBIDDEN = 1, NEARER = 3;
    private static final int LAST_LAW = 3, LAST_END = 3;

    private static final int MOST_SCALES = 4, MOST_LIVES = 4, MOST_PLACES = 8;
    private static final int LEAST_RANGE = 2, MOST_RANGE = 30;
    private static final int MOST_STEP = 3, MOST_BY = 9;
    private static final int DRAWER_AT_FIRST = 2, MOST_DRAWER = 9, FARTHEST_PLACE = 60;
    private static final int MOST_LETTERS = 200;
    private static final int LAST_YEAR = 99, MOST_PASSING = 30, YEARS_SEEN = 60, YEARS_WEIGHED = 20;
    private static final int MOST_KNOWN = 10, IMAGES = 2;
    private static final int MOST_PLANNED = 5, MOST_ORDERS = 120, MOST_BOOKS = 6, MOST_LOAD = 99;

    private final Text text = new Text();
    private final Land told = new Land();
    private final Moment present = new Moment();
    private final Past past = new Past();
    private final Moment[] images = new Moment[IMAGES];
    private final boolean[] kept = new boolean[IMAGES];
    private final Agenda agenda = new Agenda();
    private final Register register = new Register();
    private final int[] jumpsToGo = new int[MOST_PLACES];
    private final int[] fewestParts = new int[MOST_LOAD + 1];
    private long traced = 0L;

    public NoBetweens() {
        for (int i = 0; i < IMAGES; i++) {
            images[i] = new Moment();
        }
    }

    // ---- the land

    public int type(int letter) {
        if (!within(letter, 0, 255)) {
            return BAD;
        }
        return text.adds(letter) ? text.length : FULL;
    }

    public int clear() {
        int had = text.length;
        text.length = 0;
        return had;
    }

    public int land() {
        int answer = text.reads();
        if (answer < 0) {
            return answer;
        }
        told.becomes(text.land);
        present.becomes(text.moment);
        text.length = 0;
        past.known = 0;
        agenda.size = 0;
        register.size = 0;
        for (int i = 0; i < IMAGES; i++) {
            kept[i] = false;
        }
        return answer;
    }

    public int scale(int s, int what) {
        if (!told.hasScale(s) || !within(what, 0, 2)) {
            return BAD;
        }
        if (what == 0) {
            return present.laws[s];
        }
        return what == 1 ? told.ranges[s] : present.marks[s];
    }

    public int life(int l, int s, int what) {
        if (!told.hasLife(l) || !told.hasScale(s) || !within(what, 0, 2)) {
            return BAD;
        }
        if (what == 0) {
            return present.values[cell(l, s)];
        }
        return what == 1 ? told.steps[cell(l, s)] + MOST_STEP : endBehind(0, l, s);
    }

    public int end(int s, int value) {
        if (!told.hasScale(s) || !within(value, 0, told.ranges[s])) {
            return BAD;
        }
        return endOf(s, value);
    }

    public int place(int p) {
        return told.hasPlace(p) ? told.spots[p] : BAD;
    }

    // ---- years

    public int passes(int n) {
        if (!within(n, 1, MOST_PASSING)) {
            return BAD;
        }
        if (present.year + n > LAST_YEAR) {
            return STATE;
        }
        past.remembers(present);
        for (int i = 0; i < n; i++) {
            goByOneYear();
        }
        return present.year;
    }

    public int changes(int l, int s, int by) {
        if (!told.hasLife(l) || !told.hasScale(s) || !within(by, -MOST_BY, MOST_BY)) {
            return BAD;
        }
        past.remembers(present);
        int at = cell(l, s);
        present.values[at] = moved(present.values[at], by, told.ranges[s]);
        return present.values[at];
    }

    public int law(int s, int law, int t) {
        if (!canBeLaw(s, law, t)) {
            return BAD;
        }
        past.remembers(present);
        present.laws[s] = law;
        present.marks[s] = t;
        return Integer.bitCount(unlawfulLives());
    }

    public int undo() {
        return past.givesBack(present) ? past.known : STATE;
    }

    public int now(int what) {
        switch (what) {
            case 0:
                return present.year;
            case 1:
                return unlawfulLives();
            case 2:
                return inTheDrawer();
            case 3:
                return inTheDrawer() > told.drawer ? 1 : 0;
            case 4:
                return present.jumps;
            case 5:
                return past.known;
            default:
                return BAD;
        }
    }

    // ---- what comes

    public int behind(int n, int l, int s) {
        if (!within(n, 0, YEARS_SEEN) || !told.hasLife(l) || !told.hasScale(s)) {
            return BAD;
        }
        return endBehind(n, l, s);
    }

    public int first(int l, int what) {
        if (!told.hasLife(l) || !within(what, 0, 1)) {
            return BAD;
        }
        for (int n = 0; n <= YEARS_SEEN; n++) {
            int s = unlawfulScale(l, n);
            if (s != NONE) {
                return what == 0 ? n : s;
            }
        }
        return NONE;
    }

    public int freed(int s, int law, int t) {
        if (!canBeLaw(s, law, t)) {
            return NO;
        }
        return unlawfulYears(s, present.laws[s], present.marks[s]) - unlawfulYears(s, law, t);
    }

    public int bestJump(int s, int what) {
        if (!told.hasScale(s) || !within(what, 0, 1)) {
            return BAD;
        }
        int best = 1;
        int fewest = endChangesByJump(s, 1);
        for (int t = 2; t <= told.ranges[s]; t++) {
            int come = endChangesByJump(s, t);
            if (come < fewest) {
                best = t;
                fewest = come;
            }
        }
        return what == 0 ? best : fewest;
    }

    // ---- orders

    public int plans(int s, int by) {
        if (!told.hasScale(s) || !within(by, -MOST_BY, MOST_BY)) {
            return BAD;
        }
        return agenda.adds(s, by) ? agenda.size : FULL;
    }

    public int drop() {
        int had = agenda.size;
        agenda.size = 0;
        return had;
    }

    public int orders(int l, int i) {
        if (!told.hasLife(l) || i < -1) {
            return BAD;
        }
        int found = lawfulOrders(l, NONE);
        if (i == -1) {
            return found;
        }
        if (found == 0) {
            return NONE;
        }
        return i < agenda.size ? agenda.firstOrder[i] : UNCLEAR;
    }

    public int bars(int l) {
        if (!told.hasLife(l)) {
            return BAD;
        }
        if (lawfulOrders(l, NONE) > 0) {
            return NONE;
        }
        for (int k = 0; k < agenda.size; k++) {
            if (lawfulOrders(l, k) > 0) {
                return k;
            }
        }
        return NONE;
    }

    // ---- trips, parts

    public int trip(int s, int from, int to, int what) {
        if (!told.hasScale(s) || !told.hasPlace(from) || !told.hasPlace(to) || !within(what, 0, 1)) {
            return BAD;
        }
        countJumpsTo(to, s);
        if (what == 0 || jumpsToGo[from] == NONE) {
            return jumpsToGo[from];
        }
        return firstPlaceOnTheWay(from, s);
    }

    public int parts(int s, int load, int what) {
        if (!told.hasScale(s) || !within(load, 1, MOST_LOAD) || !within(what, 0, 1)) {
            return BAD;
        }
        fewestParts[0] = 0;
        for (int made = 1; made <= load; made++) {
            fewestParts[made] = fewestPartsOf(made, s);
        }
        if (what == 0 || fewestParts[load] == NONE) {
            return fewestParts[load];
        }
        return greatestPart(load, s);
    }

    // ---- books

    public int books(int s, int year, int end) {
        if (!told.hasScale(s) || !within(year, 0, YEARS_SEEN) || !within(end, 0, LAST_END)) {
            return BAD;
        }
        return register.adds(s, year, end) ? register.size : FULL;
    }

    public int burn() {
        int had = register.size;
        register.size = 0;
        return had;
    }

    public int fits(int s) {
        if (!told.hasScale(s)) {
            return BAD;
        }
        int found = 0;
        for (int value = 0; value <= told.ranges[s]; value++) {
            for (int step = -MOST_STEP; step <= MOST_STEP; step++) {
                if (agreesWithBooks(s, value, step)) {
                    found++;
                }
            }
        }
        return found;
    }

    public int sure(int s, int year) {
        if (!told.hasScale(s) || !within(year, 0, YEARS_SEEN)) {
            return BAD;
        }
        int common = NONE;
        for (int value = 0; value <= told.ranges[s]; value++) {
            for (int step = -MOST_STEP; step <= MOST_STEP; step++) {
                if (agreesWithBooks(s, value, step)) {
                    int then = endInYear(s, year, value, step);
                    if (common != NONE && common != then) {
                        return UNCLEAR;
                    }
                    common = then;
                }
            }
        }
        return common;
    }

    public int clash() {
        for (int a = 0; a < told.scales; a++) {
            for (int b = a + 1; b < told.scales; b++) {
                if (areOpposed(a, b)) {
                    return 10 * a + b;
                }
            }
        }
        return NONE;
    }

    // ---- kinds, images

    public int rate(int kind, int l) {
        if (!told.hasLife(l)) {
            return NO;
        }
        switch (kind) {
            case 0:
                return rateAsLife(l);
            case 1:
                return rateAsChild(l);
            case 2:
                return rateAsFiance(l);
            case 3:
                return rateAsThirdSon(l);
            case 4:
                return rateAsWidow(l);
            case 5:
                return rateAsSmuggler(l);
            default:
                return NO;
        }
    }

    public int keep(int image) {
        if (!within(image, 0, IMAGES - 1)) {
            return BAD;
        }
        images[image].becomes(present);
        kept[image] = true;
        return present.year;
    }

    public int back(int image) {
        if (!within(image, 0, IMAGES - 1)) {
            return BAD;
        }
        if (!kept[image]) {
            return STATE;
        }
        present.becomes(images[image]);
        past.known = 0;
        return present.year;
    }

    public int count(int what) {
        switch (what) {
            case 0:
                return told.scales;
            case 1:
                return told.lives;
            case 2:
                return told.places;
            case 3:
                return agenda.size;
            case 4:
                return register.size;
            case 5:
                return text.length;
            case 6:
                return told.drawer;
            default:
                return BAD;
        }
    }

    public long trace() {
        return traced;
    }

    // ---- numbers

    private static boolean within(int number, int least, int most) {
        return number >= least && number <= most;
    }

    private static int moved(int value, int by, int range) {
        return Math.max(0, Math.min(range, value + by));
    }

    private static int cell(int l, int s) {
        return l * MOST_SCALES + s;
    }

    // ---- ends

    private static int endBy(int law, int mark, int range, int value) {
        if (law == JUMP) {
            return value < mark ? LOW : HIGH;
        }
        if (law == NEARER) {
            int twice = 2 * value;
            return twice == range ? BOTH : twice < range ? LOW : HIGH;
        }
        if (value == 0) {
            return LOW;
        }
        if (value == range) {
            return HIGH;
        }
        return law == FORBIDDEN ? NOWHERE : BOTH;
    }

    private int endOf(int s, int value) {
        return endBy(present.laws[s], present.marks[s], told.ranges[s], value);
    }

    private boolean canBeLaw(int s, int law, int t) {
        return told.hasScale(s) && within(law, 0, LAST_LAW) && within(t, 1, told.ranges[s]);
    }

    // A STEP never turns, so stopping at an edge once is the same as stopping at it each year.
    private int valueBehind(int n, int l, int s) {
        int at = cell(l, s);
        return moved(present.values[at], n * told.steps[at], told.ranges[s]);
    }

    private int endBehind(int n, int l, int s) {
        return endOf(s, valueBehind(n, l, s));
    }

    private int unlawfulScale(int l, int n) {
        for (int s = 0; s < told.scales; s++) {
            if (endBehind(n, l, s) == NOWHERE) {
                return s;
            }
        }
        return NONE;
    }

    private int unlawfulLives() {
        int bits = 0;
        for (int l = 0; l < told.lives; l++) {
            if (unlawfulScale(l, 0) != NONE) {
                bits |= 1 << l;
            }
        }
        return bits;
    }

    private int scalesAt(int end, int l) {
        int found = 0;
        for (int s = 0; s < told.scales; s++) {
            if (endOf(s, present.values[cell(l, s)]) == end) {
                found++;
            }
        }
        return found;
    }

    private int inTheDrawer() {
        int found = 0;
        for (int l = 0; l < told.lives; l++) {
            found += scalesAt(BOTH, l);
        }
        return found;
    }

    private void goByOneYear() {
        for (int l = 0; l < told.lives; l++) {
            for (int s = 0; s < told.scales; s++) {
                if (endBehind(0, l, s) != endBehind(1, l, s)) {
                    present.jumps++;
                }
                present.values[cell(l, s)] = valueBehind(1, l, s);
            }
        }
        present.year++;
    }

    // ---- other laws

    private int unlawfulYears(int s, int law, int mark) {
        int found = 0;
        for (int l = 0; l < told.lives; l++) {
            for (int n = 0; n <= YEARS_WEIGHED; n++) {
                if (isUnlawfulBy(l, n, s, law, mark)) {
                    found++;
                }
            }
        }
        return found;
    }

    private boolean isUnlawfulBy(int l, int n, int s, int law, int mark) {
        for (int c = 0; c < told.scales; c++) {
            int value = valueBehind(n, l, c);
            int end = c == s ? endBy(law, mark, told.ranges[s], value) : endOf(c, value);
            if (end == NOWHERE) {
                return true;
            }
        }
        return false;
    }

    private int endChangesByJump(int s, int t) {
        int found = 0;
        for (int l = 0; l < told.lives; l++) {
            for (int n = 0; n < YEARS_WEIGHED; n++) {
                if ((valueBehind(n, l, s) < t) != (valueBehind(n + 1, l, s) < t)) {
                    found++;
                }
            }
        }
        return found;
    }

    private boolean areOpposed(int a, int b) {
        if (told.ranges[a] != told.ranges[b]) {
            return false;
        }
        for (int value = 0; value <= told.ranges[a]; value++) {
            int by = endOf(a, value);
            int other = endOf(b, value);
            if (by == LOW && other == HIGH || by == HIGH && other == LOW) {
                return true;
            }
        }
        return false;
    }

    // ---- orders of changes

    private int lawfulOrders(int l, int leftOut) {
        int many = agenda.startsOrders(leftOut);
        int found = 0;
        boolean more = true;
        for (int tried = 0; tried < MOST_ORDERS && more; tried++) {
            if (staysLawful(l, many)) {
                if (found == 0) {
                    agenda.keepsAsFirst();
                }
                found++;
            }
            more = agenda.goesToNextOrder(many);
        }
        return found;
    }

    // A planned change has its SCALE for good: land(), which alone takes SCALES away, drops what is planned.
    private boolean staysLawful(int l, int many) {
        for (int s = 0; s < told.scales; s++) {
            agenda.values[s] = present.values[cell(l, s)];
        }
        for (int i = 0; i < many; i++) {
            int change = agenda.order[i];
            int s = agenda.scales[change];
            agenda.values[s] = moved(agenda.values[s], agenda.bys[change], told.ranges[s]);
            if (isUnlawfulMeanwhile()) {
                return false;
            }
        }
        return true;
    }

    private boolean isUnlawfulMeanwhile() {
        for (int s = 0; s < told.scales; s++) {
            if (endOf(s, agenda.values[s]) == NOWHERE) {
                return true;
            }
        }
        return false;
    }

    // ---- the ways of a trip

    private boolean canJump(int s, int from, int to) {
        int apart = Math.abs(told.spots[from] - told.spots[to]);
        return apart <= told.ranges[s] && endOf(s, apart) != NOWHERE;
    }

    private void countJumpsTo(int to, int s) {
        for (int p = 0; p < told.places; p++) {
            jumpsToGo[p] = NONE;
        }
        jumpsToGo[to] = 0;
        for (int jumps = 0; jumps < told.places; jumps++) {
            for (int p = 0; p < told.places; p++) {
                if (jumpsToGo[p] == jumps) {
                    reachFrom(p, s);
                }
            }
        }
    }

    private void reachFrom(int p, int s) {
        for (int q = 0; q < told.places; q++) {
            if (jumpsToGo[q] == NONE && canJump(s, p, q)) {
                jumpsToGo[q] = jumpsToGo[p] + 1;
            }
        }
    }

    private int firstPlaceOnTheWay(int from, int s) {
        for (int p = 0; p < told.places; p++) {
            if (canJump(s, from, p) && jumpsToGo[p] == jumpsToGo[from] - 1) {
                return p;
            }
        }
        return NONE;
    }

    // ---- the parts of a load

    private int fewestPartsOf(int load, int s) {
        int fewest = NONE;
        for (int part = Math.min(load, told.ranges[s]); part >= 1; part--) {
            int others = fewestParts[load - part];
            if (endOf(s, part) != NOWHERE && others != NONE && (fewest == NONE || others + 1 < fewest)) {
                fewest = others + 1;
            }
        }
        return fewest;
    }

    private int greatestPart(int load, int s) {
        for (int part = Math.min(load, told.ranges[s]); part >= 1; part--) {
            if (endOf(s, part) != NOWHERE && fewestParts[load - part] == fewestParts[load] - 1) {
                return part;
            }
        }
        return NONE;
    }

    // ---- what the books allow

    private int endInYear(int s, int year, int value, int step) {
        return endOf(s, moved(value, year * step, told.ranges[s]));
    }

    private boolean agreesWithBooks(int s, int value, int step) {
        for (int i = 0; i < register.size; i++) {
            if (register.scales[i] == s && endInYear(s, register.years[i], value, step) != register.ends[i]) {
                return false;
            }
        }
        return true;
    }

    // ---- the bodies of the kinds

    private int rateAsLife(int l) {
        traced += 1;
        int sum = 0;
        for (int s = 0; s < told.scales; s++) {
            sum += present.values[cell(l, s)];
        }
        return sum;
    }

    private int rateAsChild(int l) {
        traced += 10;
        return rateAsLife(l) + scalesAt(HIGH, l);
    }

    private int rateAsFiance(int l) {
        traced += 100;
        return rateAsLife(l) - scalesAt(BOTH, l);
    }

    private int rateAsThirdSon(int l) {
        traced += 1000;
        return 2 * rateAsChild(l);
    }

    private int rateAsWidow(int l) {
        traced += 10000;
        return rateAsFiance(l) + l;
    }

    private int rateAsSmuggler(int l) {
        traced += 100000;
        return rateAsLife(l) + told.drawer;
    }

    /** What the text alone can change. */
    private static final class Land {
        int scales = 0;
        int lives = 0;
        int places = 0;
        int drawer = DRAWER_AT_FIRST;
        final int[] ranges = new int[MOST_SCALES];
        final int[] steps = new int[MOST_LIVES * MOST_SCALES];
        final int[] spots = new int[MOST_PLACES];

        void empties() {
            scales = 0;
            lives = 0;
            places = 0;
            drawer = DRAWER_AT_FIRST;
        }

        void becomes(Land other) {
            scales = other.scales;
            lives = other.lives;
            places = other.places;
            drawer = other.drawer;
            System.arraycopy(other.ranges, 0, ranges, 0, MOST_SCALES);
            System.arraycopy(other.steps, 0, steps, 0, MOST_LIVES * MOST_SCALES);
            System.arraycopy(other.spots, 0, spots, 0, MOST_PLACES);
        }

        boolean hasScale(int s) {
            return s >= 0 && s < scales;
        }

        boolean hasLife(int l) {
            return l >= 0 && l < lives;
        }

        boolean hasPlace(int p) {
            return p >= 0 && p < places;
        }
    }

    /** What years, changes and laws move: all that an image keeps and undo() gives back. */
    private static final class Moment {
        int year = 0;
        int jumps = 0;
        final int[] values = new int[MOST_LIVES * MOST_SCALES];
        final int[] laws = new int[MOST_SCALES];
        final int[] marks = new int[MOST_SCALES];

        void becomes(Moment other) {
            year = other.year;
            jumps = other.jumps;
            System.arraycopy(other.values, 0, values, 0, MOST_LIVES * MOST_SCALES);
            System.arraycopy(other.laws, 0, laws, 0, MOST_SCALES);
            System.arraycopy(other.marks, 0, marks, 0, MOST_SCALES);
        }
    }

    /** The latest moments, in a ring, so that the oldest is lost when an eleventh comes. */
    private static final class Past {
        int known = 0;
        private int next = 0;
        private final Moment[] ring = new Moment[MOST_KNOWN];

        Past() {
            for (int i = 0; i < MOST_KNOWN; i++) {
                ring[i] = new Moment();
            }
        }

        void remembers(Moment moment) {
            ring[next].becomes(moment);
            next = (next + 1) % MOST_KNOWN;
            known = Math.min(MOST_KNOWN, known + 1);
        }

        /** False, and nothing changes, if no moment is known. */
        boolean givesBack(Moment moment) {
            if (known == 0) {
                return false;
            }
            next = (next + MOST_KNOWN - 1) % MOST_KNOWN;
            known--;
            moment.becomes(ring[next]);
            return true;
        }
    }

    /** The planned changes, and the order of them that is being tried. */
    private static final class Agenda {
        int size = 0;
        final int[] scales = new int[MOST_PLANNED];
        final int[] bys = new int[MOST_PLANNED];
        final int[] order = new int[MOST_PLANNED];
        final int[] firstOrder = new int[MOST_PLANNED];
        final int[] values = new int[MOST_SCALES];

        /** False, and nothing changes, if there is no room. */
        boolean adds(int s, int by) {
            if (size >= MOST_PLANNED) {
                return false;
            }
            scales[size] = s;
            bys[size] = by;
            size++;
            return true;
        }

        void keepsAsFirst() {
            System.arraycopy(order, 0, firstOrder, 0, MOST_PLANNED);
        }

        int startsOrders(int leftOut) {
            int many = 0;
            for (int i = 0; i < size; i++) {
                if (i != leftOut) {
                    order[many] = i;
                    many++;
                }
            }
            return many;
        }

        /** Goes on to the next order by numbers; false if this was the last. */
        boolean goesToNextOrder(int many) {
            int rising = lastRising(many);
            if (rising < 0) {
                return false;
            }
            swaps(rising, lastAbove(rising, many));
            for (int a = rising + 1, b = many - 1; a < b; a++, b--) {
                swaps(a, b);
            }
            return true;
        }

        private int lastRising(int many) {
            for (int i = many - 2; i >= 0; i--) {
                if (order[i] < order[i + 1]) {
                    return i;
                }
            }
            return -1;
        }

        private int lastAbove(int rising, int many) {
            for (int i = many - 1; i > rising; i--) {
                if (order[i] > order[rising]) {
                    return i;
                }
            }
            return rising;
        }

        private void swaps(int a, int b) {
            int was = order[a];
            order[a] = order[b];
            order[b] = was;
        }
    }

    /** What the church books tell. */
    private static final class Register {
        int size = 0;
        final int[] scales = new int[MOST_BOOKS];
        final int[] years = new int[MOST_BOOKS];
        final int[] ends = new int[MOST_BOOKS];

        /** False, and nothing changes, if there is no room. */
        boolean adds(int s, int year, int end) {
            if (size >= MOST_BOOKS) {
                return false;
            }
            scales[size] = s;
            years[size] = year;
            ends[size] = end;
            size++;
            return true;
        }
    }

    /** The text, and what it tells when it is read. */
    private static final class Text {
        // A token is its number or, below 0, its letter with the sign turned, OTHER or ENDED.
        private static final int OTHER = -1, ENDED = -2;
        private static final int NO_FAULT = -1;
        private static final int BLANK = 32;

        int length = 0;
        final Land land = new Land();
        final Moment moment = new Moment();
        private final int[] letters = new int[MOST_LETTERS];
        private final int[] tokens = new int[MOST_LETTERS + 1];
        private final int[] starts = new int[MOST_LETTERS + 1];
        private int next = 0;
        private int items = 0;
        private int fault = NO_FAULT;
        private boolean drawerTold = false;

        /** False, and nothing changes, if there is no room. */
        boolean adds(int letter) {
            if (length >= MOST_LETTERS) {
                return false;
            }
            letters[length] = letter;
            length++;
            return true;
        }

        /** How many items the text has, or FAULTY less the place of its fault. */
        int reads() {
            splitsIntoTokens();
            land.empties();
            next = 0;
            items = 0;
            fault = NO_FAULT;
            drawerTold = false;
            for (int i = 0; i < MOST_LETTERS && tokens[next] != ENDED && fault == NO_FAULT; i++) {
                readsItem();
            }
            return fault == NO_FAULT ? items : FAULTY - fault;
        }

        private void splitsIntoTokens() {
            int many = 0;
            for (int at = 0; at < length; at++) {
                if (startsToken(at)) {
                    tokens[many] = tokenFrom(at);
                    starts[many] = at;
                    many++;
                }
            }
            // No item takes ENDED, so that next never goes beyond it.
            tokens[many] = ENDED;
            starts[many] = length;
        }

        private boolean startsToken(int at) {
            boolean withinNumber = isDigit(at) && isDigit(at - 1);
            return letters[at] != BLANK && !withinNumber;
        }

        private int tokenFrom(int at) {
            if (isDigit(at)) {
                return numberFrom(at);
            }
            int letter = letters[at];
            boolean known = letter == 's' || letter == 'l' || letter == 'd' || letter == 'p' || letter == ';';
            return known ? -letter : OTHER;
        }

        private int numberFrom(int at) {
            int leading = letters[at] - '0';
            if (!isDigit(at + 1)) {
                return leading;
            }
            if (leading == 0 || isDigit(at + 2)) {
                return OTHER;
            }
            return 10 * leading + letters[at + 1] - '0';
        }

        private boolean isDigit(int at) {
            return at >= 0 && at < length && letters[at] >= '0' && letters[at] <= '9';
        }

        private void readsItem() {
            int letter = -tokens[next];
            if (!mayBegin(letter)) {
                fault = starts[next];
                return;
            }
            next++;
            switch (letter) {
                case 's':
                    readsScale();
                    break;
                case 'l':
                    readsLife();
                    break;
                case 'd':
                    drawerTold = true;
                    land.drawer = takesNumber(0, MOST_DRAWER);
                    break;
                default:
                    land.spots[land.places] = takesNumber(0, FARTHEST_PLACE);
                    land.places++;
                    break;
            }
            takesSemicolon();
            items++;
        }

        private boolean mayBegin(int letter) {
            switch (letter) {
                case 's':
                    return land.lives == 0 && land.scales < MOST_SCALES;
                case 'l':
                    return land.lives < MOST_LIVES;
                case 'd':
                    return !drawerTold;
                case 'p':
                    return land.places < MOST_PLACES;
                default:
                    return false;
            }
        }

        private void readsScale() {
            int s = land.scales;
            moment.laws[s] = takesNumber(0, LAST_LAW);
            land.ranges[s] = takesNumber(LEAST_RANGE, MOST_RANGE);
            moment.marks[s] = takesNumber(1, land.ranges[s]);
            land.scales++;
        }

        private void readsLife() {
            for (int s = 0; s < land.scales; s++) {
                int where = cell(land.lives, s);
                moment.values[where] = takesNumber(0, land.ranges[s]);
                land.steps[where] = takesNumber(0, 2 * MOST_STEP) - MOST_STEP;
            }
            land.lives++;
        }

        // Behind a fault the least stands in for every number: nothing of it is used.
        private int takesNumber(int least, int most) {
            int number = tokens[next];
            takes(within(number, least, most));
            return fault == NO_FAULT ? number : least;
        }

        private void takesSemicolon() {
            takes(tokens[next] == -';');
        }

        private void takes(boolean allowed) {
            if (fault != NO_FAULT) {
                return;
            }
            if (allowed) {
                next++;
            } else {
                fault = starts[next];
            }
        }
    }
}
