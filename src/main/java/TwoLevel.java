import java.util.Arrays;
import java.util.NoSuchElementException;

/**
 * Two who are alike but for what they have of some kinds of sorrow and joy. The words in capitals of the document
 * (KIND, DEED, GAP, APART ..) are used here in small letters with the same meaning.
 */
public final class TwoLevel {
    public static final int NONE = -1;

    /** What many calls answer, where there is nothing to tell but the call itself was right. */
    private static final int NOTHING = -2;
    private static final int TWINS = 2;
    private static final int KINDS_MOST = 6;
    private static final int DEEDS_MOST = 8;
    private static final int DOINGS_MOST = 12;
    private static final int HAS_MOST = 12;
    private static final int KNOTS_MOST = 64;
    private static final int OPEN_MOST = 8;
    private static final int TAPE_MOST = 700;
    private static final int FED = 20;
    private static final int AMOUNT_MOST = 999;
    private static final int PURSE_MOST = 9999;
    private static final int APART_MOST = 9999;
    private static final int DAYS_MOST = 200;
    private static final int LAST_DAY = 9000;
    private static final int PLAN_MOST = 4;
    private static final int TOLD_MOST = 24;
    private static final int SIGHT_DAYS_MOST = 60;
    private static final int UNDO_MOST = 20;

    /** The laws by number. */
    private static final int LAW_APART = 0;
    private static final int LAW_HEAL = 1;
    private static final int LAW_LUCK = 2;
    private static final int LAWS = 3;

    /** What is no value of an E: values stay within 10 to the 12. */
    private static final long ERROR = Long.MIN_VALUE;
    private static final long VALUE_MOST = 1000000000000L;

    /** What became of a doing. */
    private static final int NOT_YET = 0;
    private static final int OFF = 1;
    private static final int IN_VAIN = 2;
    private static final int REFUSED = 3;

    /** How luck is found: by numbers, as it goes, or all comes off. */
    private static final int DRAWN = 0;
    private static final int AS_IT_GOES = 1;
    private static final int ALWAYS = 2;

    /** The faults. */
    private static final int MISPLACED = 1;
    private static final int TOO_MUCH = 2;
    private static final int TOLD_ALREADY = 3;
    private static final int UNTOLD = 4;

    /** Sorts of tokens: these, a sign's own character, and FIRST_WORD and on for the words of the language. */
    private static final int END = 0;
    private static final int BAD = 1;
    private static final int NAME = 2;
    private static final int NUMBER = 3;
    private static final int AT_MOST = 4;
    private static final int UNLIKE = 5;
    private static final int AT_LEAST = 6;
    private static final int FIRST_WORD = 100;
    private static final int WORD_COUNT = 21;
    private static final String WORDS =
            "kind has deed do purse wage seed law apart heal luck or and not own other gap shows heals level day ";
    private static final int KIND = 100;
    private static final int HAS = 101;
    private static final int DEED = 102;
    private static final int DO = 103;
    private static final int PURSE = 104;
    private static final int WAGE = 105;
    private static final int SEED = 106;
    private static final int LAW = 107;
    private static final int APART = 108;
    private static final int LUCK = 110;
    private static final int OR = 111;
    private static final int AND = 112;
    private static final int NOT = 113;
    private static final int OWN = 114;
    private static final int DAY = 120;
    private static final int NAMES = 7;

    private final byte[] tape = new byte[TAPE_MOST];
    private int taped = 0;
    private int latestFault = 0;
    private int latestPlace = NONE;
    private World world = new World();
    /** Where the next text is read to, so that a faulty one leaves all as it is. */
    private World spare = new World();
    private final Parser parser = new Parser(spare);
    private final State now = new State();
    private final State later = new State();
    private final State image = new State();
    private boolean hasImage = false;
    private final Course course = new Course(world);
    private final Planner planner = new Planner();
    private final Leveller leveller = new Leveller();
    private final Ledger ledger = new Ledger();
    private final Tidings tidings = new Tidings();

    public TwoLevel() {
    }

    public int feed(int a, int b, int c, int d, int e) {
        if (taped + FED > TAPE_MOST) {
            return NONE;
        }
        putBytes(a);
        putBytes(b);
        putBytes(c);
        putBytes(d);
        putBytes(e);
        return taped;
    }

    private void putBytes(int four) {
        for (int shift = 24; shift >= 0 && taped < TAPE_MOST; shift -= 8) {
            tape[taped] = (byte) (four >> shift);
            taped++;
        }
    }

    public int text(int n) {
        if (n < 0 || n > taped) {
            return NOTHING;
        }
        taped = 0;
        int lines = parser.readText(tape, n, spare);
        latestFault = parser.faultFound;
        latestPlace = parser.faultPlace;
        if (lines < 0) {
            return NONE;
        }
        World before = world;
        world = spare;
        spare = before;
        now.begin(world);
        hasImage = false;
        ledger.forget();
        tidings.forget();
        planner.isFresh = false;
        return lines;
    }

    public int fault(int what) {
        if (what == 0) {
            return latestFault;
        }
        return what == 1 ? latestPlace : NONE;
    }

    public int named(int what, int letters) {
        if (what == 0) {
            return placeOf(letters, world.kindNames, world.kindCount);
        }
        return what == 1 ? placeOf(letters, world.deedNames, world.deedCount) : NONE;
    }

    private static int placeOf(int letters, int[] names, int count) {
        for (int i = 0; i < count && i < names.length; i++) {
            if (names[i] == letters) {
                return i;
            }
        }
        return NONE;
    }

    private boolean isKind(int kind) {
        return kind >= 0 && kind < world.kindCount;
    }

    private boolean isDeed(int deed) {
        return deed >= 0 && deed < world.deedCount;
    }

    private static boolean isTwin(int twin) {
        return twin == 0 || twin == 1;
    }

    private static boolean isWithin(int value, int least, int most) {
        return value >= least && value <= most;
    }

    public int amount(int kind, int twin) throws IndexOutOfBoundsException, NoSuchElementException {
        if (!isKind(kind)) {
            throw new IndexOutOfBoundsException("no such kind");
        }
        if (!isTwin(twin)) {
            throw new NoSuchElementException("no such twin");
        }
        return now.has(kind, twin);
    }

    public int kind(int kind, int what) {
        if (!isKind(kind)) {
            return NONE;
        }
        switch (what) {
            case 0: return world.shows[kind];
            case 1: return world.heals[kind];
            case 2: return now.gapOf(kind);
            default: return NONE;
        }
    }

    public int deed(int deed, int what) {
        if (!isDeed(deed)) {
            return Integer.MIN_VALUE;
        }
        switch (what) {
            case 0: return world.deedKinds[deed];
            case 1: return world.bys[deed];
            case 2: return world.costs[deed];
            case 3: return world.odds[deed];
            default: return Integer.MIN_VALUE;
        }
    }

    public int done(int which, int what) {
        if (which < 0 || which >= world.doingCount) {
            return NONE;
        }
        switch (what) {
            case 0: return world.doingTwins[which];
            case 1: return world.doingDeeds[which];
            case 2: return world.doingDays[which];
            case 3: return now.outcomes[which];
            default: return NONE;
        }
    }

    public int twin(int twin, int what) {
        if (!isTwin(twin)) {
            return Integer.MIN_VALUE;
        }
        switch (what) {
            case 0: return now.purses[twin];
            case 1: return world.wages[twin];
            case 2: return now.happyOf(twin, world.kindCount);
            default: return Integer.MIN_VALUE;
        }
    }

    public int apart() {
        course.take(world, AS_IT_GOES);
        return course.distance(now);
    }

    public long law(int what, int which, int twin) {
        boolean isLuck = what == LAW_LUCK;
        if (what < 0 || what >= LAWS || (isLuck ? !isDeed(which) : !isKind(which))) {
            return ERROR;
        }
        if (what != LAW_APART && !isTwin(twin)) {
            return ERROR;
        }
        course.take(world, AS_IT_GOES);
        return course.worked(now, what, isLuck ? world.deedKinds[which] : which, what == LAW_APART ? 0 : twin);
    }

    public int does(int twin, int deed, boolean isOff) {
        if (!isTwin(twin) || !isDeed(deed)) {
            return NONE;
        }
        int cost = world.costs[deed];
        if (now.purses[twin] < cost) {
            return NOTHING;
        }
        int kind = world.deedKinds[deed];
        remember(kind);
        now.purses[twin] -= cost;
        if (isOff) {
            now.add(kind, twin, world.bys[deed]);
        }
        return now.purses[twin];
    }

    public int give(int twin, int much) {
        if (!isTwin(twin) || !isWithin(much, 1, 99)) {
            return NONE;
        }
        remember(NONE);
        now.purses[twin] = Math.min(PURSE_MOST, now.purses[twin] + much);
        return now.purses[twin];
    }

    public boolean exchange(int kind) {
        if (!isKind(kind) || now.gapOf(kind) == 0) {
            return false;
        }
        remember(kind);
        int first = now.has(kind, 0);
        now.put(kind, 0, now.has(kind, 1));
        now.put(kind, 1, first);
        return true;
    }

    private void remember(int kind) {
        ledger.push(now, kind);
        planner.isFresh = false;
    }

    public int go(int n) {
        if (!isWithin(n, 0, DAYS_MOST) || now.day + n > LAST_DAY) {
            return NONE;
        }
        if (n > 0) {
            course.take(world, DRAWN);
            course.passDays(now, n);
            ledger.forget();
            planner.isFresh = false;
        }
        return now.day;
    }

    private void startAhead() {
        course.take(world, AS_IT_GOES);
        later.copyOf(now);
    }

    public int ahead(int n, int what, int twin) {
        boolean isOfTwin = what == 2 || what == 3;
        if (!isWithin(n, 0, DAYS_MOST) || !isWithin(what, 0, 4) || (isOfTwin && !isTwin(twin))) {
            return Integer.MIN_VALUE;
        }
        startAhead();
        course.passDays(later, n);
        switch (what) {
            case 0: return course.distance(later);
            case 1: return later.levelDays - now.levelDays;
            case 2: return later.purses[twin];
            case 3: return later.happyOf(twin, world.kindCount);
            default: return later.offCount - now.offCount;
        }
    }

    public int nextLevel() {
        return nextTime(true);
    }

    public int nextOut() {
        return nextTime(false);
    }

    private int nextTime(boolean isLevel) {
        startAhead();
        for (int days = 0; days < DAYS_MOST; days++) {
            if (later.isLevel(world.kindCount) == isLevel) {
                return days;
            }
            course.oneDay(later);
        }
        return NOTHING;
    }

    public int cheap(int kind) {
        return isKind(kind) ? leveller.least(world, now, kind, 3, false) : NONE;
    }

    public int few(int kind) {
        return isKind(kind) ? leveller.least(world, now, kind, 3, true) : NONE;
    }

    public int alone(int kind, int twin) {
        return isKind(kind) && isTwin(twin) ? leveller.least(world, now, kind, 1 << twin, false) : NONE;
    }

    public int plan(int twin, int n, int what) {
        if (!isTwin(twin) || !isWithin(n, 1, PLAN_MOST) || !isWithin(what, 0, PLAN_MOST)) {
            return NONE;
        }
        if (!planner.isFor(twin, n)) {
            course.take(world, AS_IT_GOES);
            planner.search(course, now, twin, n);
        }
        if (what == PLAN_MOST) {
            return planner.least;
        }
        return what < n && planner.best[what] >= 0 ? planner.best[what] : NOTHING;
    }

    private int shownBy(int kind) {
        return now.gapOf(kind) * world.shows[kind];
    }

    public int sign() {
        if (world.kindCount == 0) {
            return NONE;
        }
        int found = NOTHING;
        int most = 0;
        for (int kind = 0; kind < world.kindCount; kind++) {
            if (shownBy(kind) > most) {
                most = shownBy(kind);
                found = kind;
            }
        }
        return found;
    }

    public int tells() {
        int bits = 0;
        for (int kind = 0; kind < world.kindCount; kind++) {
            if (shownBy(kind) >= 10) {
                bits |= 1 << kind;
            }
        }
        return bits;
    }

    public int wanted(int twin) {
        if (!isTwin(twin)) {
            return NONE;
        }
        int bits = 0;
        for (int kind = 0; kind < world.kindCount; kind++) {
            if (now.has(kind, twin) < now.has(kind, 1 - twin)) {
                bits |= 1 << kind;
            }
        }
        return bits;
    }

    public int best(int twin) {
        if (!isTwin(twin)) {
            return NONE;
        }
        course.take(world, AS_IT_GOES);
        int found = NOTHING;
        int least = 0;
        for (int deed = 0; deed < world.deedCount; deed++) {
            later.copyOf(now);
            later.add(world.deedKinds[deed], twin, world.bys[deed]);
            int far = course.distance(later);
            if (found < 0 || far < least || (far == least && world.costs[deed] < world.costs[found])) {
                found = deed;
                least = far;
            }
        }
        return found;
    }

    public int rests() {
        int far = apart();
        int found = 0;
        for (int both = 0; both < 4; both++) {
            if (isRest(both >> 1, both & 1, far)) {
                found++;
            }
        }
        return found;
    }

    public int rest(int k) {
        if (k < 0) {
            return NONE;
        }
        int far = apart();
        int found = 0;
        for (int both = 0; both < 4; both++) {
            if (isRest(both >> 1, both & 1, far)) {
                if (found == k) {
                    return (both >> 1) * 10 + (both & 1);
                }
                found++;
            }
        }
        return NOTHING;
    }

    private boolean isRest(int first, int second, int far) {
        int firstHappy = now.happyOf(0, world.kindCount);
        int secondHappy = now.happyOf(1, world.kindCount);
        return gain(first, second, firstHappy, far) >= gain(1 - first, second, firstHappy, far)
                && gain(second, first, secondHappy, far) >= gain(1 - second, first, secondHappy, far);
    }

    /** What one has of the game: its own choice and the other one's, 0 level, 1 happy. */
    private static int gain(int own, int other, int happy, int far) {
        if (own == 0) {
            return other == 0 ? Math.max(0, 10 - far) : -(far / 10);
        }
        return other == 0 ? Math.max(5, happy / 5) : happy / 10;
    }

    public long sure(int deed, int n, int what) {
        if (!isDeed(deed) || !isWithin(n, 0, 6) || !isWithin(what, 0, 1)) {
            return NONE;
        }
        long above = 1;
        long below = 1;
        for (int i = 0; i < n; i++) {
            above *= world.odds[deed];
            below *= 100;
        }
        return inLeastTerms(above, below, what);
    }

    private static long inLeastTerms(long above, long below, int what) {
        long divisor = below;
        long rest = Math.abs(above);
        for (int i = 0; i < 100 && rest != 0; i++) {
            long next = divisor % rest;
            divisor = rest;
            rest = next;
        }
        long chosen = what == 0 ? above : below;
        return divisor == 0 ? chosen : chosen / divisor;
    }

    public int happier() {
        int first = now.happyOf(0, world.kindCount);
        int second = now.happyOf(1, world.kindCount);
        if (first == second) {
            return NOTHING;
        }
        return first > second ? 0 : 1;
    }

    public int mean(int kind, int twin, int n, int what) {
        if (!isKind(kind) || !isTwin(twin) || !isWithin(n, 0, 99) || !isWithin(what, 0, 1)) {
            return Integer.MIN_VALUE;
        }
        int sum = 0;
        for (int i = 0; i < world.doingCount; i++) {
            int deed = world.doingDeeds[i];
            if (isStillOf(i, twin) && world.deedKinds[deed] == kind && world.doingDays[i] < now.day + n) {
                sum += world.bys[deed] * world.odds[deed];
            }
        }
        return (int) inLeastTerms(sum, 100, what);
    }

    private boolean isStillOf(int which, int twin) {
        return now.outcomes[which] == NOT_YET && world.doingTwins[which] == twin;
    }

    public int nearest(int n, int what) {
        if (!isWithin(n, 0, DAYS_MOST) || !isWithin(what, 0, 1)) {
            return NONE;
        }
        startAhead();
        int found = 0;
        int least = course.distance(later);
        for (int days = 1; days <= n; days++) {
            course.oneDay(later);
            int far = course.distance(later);
            if (far < least) {
                least = far;
                found = days;
            }
        }
        return what == 0 ? found : least;
    }

    public int payers(int deed) {
        if (!isDeed(deed)) {
            return NONE;
        }
        int cost = world.costs[deed];
        return (now.purses[0] >= cost ? 1 : 0) + (now.purses[1] >= cost ? 2 : 0);
    }

    public int healed(int kind) {
        if (!isKind(kind)) {
            return NONE;
        }
        int most = Math.max(Math.abs(now.has(kind, 0)), Math.abs(now.has(kind, 1)));
        if (most == 0) {
            return 0;
        }
        int heals = world.heals[kind];
        return heals <= 0 ? NOTHING : (most + heals - 1) / heals;
    }

    public int due(int twin) {
        if (!isTwin(twin)) {
            return NONE;
        }
        int sum = 0;
        for (int i = 0; i < world.doingCount; i++) {
            if (isStillOf(i, twin)) {
                sum += world.costs[world.doingDeeds[i]];
            }
        }
        return sum;
    }

    public int busiest() {
        int found = NOTHING;
        int most = 0;
        for (int i = 0; i < world.doingCount; i++) {
            int day = world.doingDays[i];
            int many = stillOn(day);
            if (many > most || (many > 0 && many == most && day < found)) {
                most = many;
                found = day;
            }
        }
        return found;
    }

    private int stillOn(int day) {
        int many = 0;
        for (int i = 0; i < world.doingCount; i++) {
            if (now.outcomes[i] == NOT_YET && world.doingDays[i] == day) {
                many++;
            }
        }
        return many;
    }

    public int note(int kind, int amount, boolean atLeast) {
        if (!isKind(kind) || !isWithin(amount, -AMOUNT_MOST, AMOUNT_MOST)) {
            return NONE;
        }
        return tidings.tell(Tidings.NOTE, kind, amount, 0, atLeast);
    }

    public int see(int days, int kind, int gap, boolean atLeast) {
        if (!isKind(kind) || !isWithin(days, 1, SIGHT_DAYS_MOST) || !isWithin(gap, 0, AMOUNT_MOST)) {
            return NONE;
        }
        return tidings.tell(Tidings.SIGHT, kind, gap, days, atLeast);
    }

    public int strike(int told) {
        if (told < 0 || told >= tidings.size) {
            return NONE;
        }
        return tidings.tell(Tidings.STRIKE, told, 0, 0, true);
    }

    public boolean known(int n) {
        if (n < NONE || n > tidings.size) {
            return false;
        }
        tidings.knownBy = n;
        return true;
    }

    public int who() {
        tidings.settle();
        return (tidings.areNotesSo(now, 0) ? 1 : 0) + (tidings.areNotesSo(now, 1) ? 2 : 0);
    }

    public int healings(int kind) {
        if (!isKind(kind)) {
            return NONE;
        }
        tidings.settle();
        int lastDay = tidings.lastSightDay();
        int bits = 0;
        for (int heals = 0; heals <= 9; heals++) {
            if (areSightsSo(kind, heals, lastDay)) {
                bits |= 1 << heals;
            }
        }
        return bits;
    }

    private boolean areSightsSo(int kind, int heals, int lastDay) {
        course.take(world, AS_IT_GOES);
        course.otherKind = kind;
        course.otherHeals = heals;
        later.begin(world);
        for (int day = 1; day <= lastDay; day++) {
            course.oneDay(later);
            if (!tidings.areSightsSo(later, day)) {
                return false;
            }
        }
        return true;
    }

    public int chance(int seed, int n, int apart) {
        if (seed < 0 || !isWithin(n, 1, 99) || !isWithin(apart, 0, APART_MOST)) {
            return NONE;
        }
        course.take(world, DRAWN);
        int number = seed;
        int times = 0;
        for (int i = 0; i < 10; i++) {
            later.copyOf(now);
            later.number = number;
            course.passDays(later, n);
            number = later.number;
            if (course.distance(later) <= apart) {
                times++;
            }
        }
        return times;
    }

    public int tried(int what, int i, int n) {
        if (!isWithin(what, 0, 4) || !isWithin(i, 0, what == 2 ? 1 : 0) || !isWithin(n, 0, DAYS_MOST)) {
            return NONE;
        }
        course.take(world, what == 1 ? ALWAYS : AS_IT_GOES);
        course.hasHealing = what != 0;
        course.idleTwin = what == 2 ? i : NONE;
        course.hasCosts = what != 3;
        course.hasWages = what != 4;
        later.copyOf(now);
        course.passDays(later, n);
        return course.distance(later);
    }

    public int undo() {
        if (ledger.size == 0) {
            return NONE;
        }
        ledger.pop(now);
        planner.isFresh = false;
        return ledger.size;
    }

    public int keep() {
        image.copyOf(now);
        hasImage = true;
        return now.day;
    }

    public int back() {
        if (!hasImage) {
            return NONE;
        }
        now.copyOf(image);
        ledger.forget();
        planner.isFresh = false;
        return now.day;
    }

    public int count(int what) {
        switch (what) {
            case 0: return world.kindCount;
            case 1: return world.deedCount;
            case 2: return world.doingCount;
            case 3: return world.laws.knots;
            case 4: return now.day;
            case 5: return now.levelDays;
            case 6: return now.offCount;
            case 7: return now.vainCount;
            case 8: return now.refusedCount;
            case 9: return tidings.size;
            case 10: return tidings.reach();
            case 11: return ledger.size;
            default: return NONE;
        }
    }

    /** What a text tells. */
    private static final class World {
        int kindCount = 0;
        final int[] kindNames = new int[KINDS_MOST];
        final int[] shows = new int[KINDS_MOST];
        final int[] heals = new int[KINDS_MOST];
        /** By kind, of twin 0, then of 1, as in State. */
        final int[] firstAmounts = new int[KINDS_MOST * TWINS];
        int deedCount = 0;
        final int[] deedNames = new int[DEEDS_MOST];
        final int[] deedKinds = new int[DEEDS_MOST];
        final int[] bys = new int[DEEDS_MOST];
        final int[] costs = new int[DEEDS_MOST];
        final int[] odds = new int[DEEDS_MOST];
        int doingCount = 0;
        final int[] doingTwins = new int[DOINGS_MOST];
        final int[] doingDeeds = new int[DOINGS_MOST];
        final int[] doingDays = new int[DOINGS_MOST];
        final int[] firstPurses = new int[TWINS];
        final int[] wages = new int[TWINS];
        int seed = 0;
        final Laws laws = new Laws();

        void clear() {
            kindCount = 0;
            deedCount = 0;
            doingCount = 0;
            seed = 0;
            Arrays.fill(firstAmounts, 0);
            Arrays.fill(firstPurses, 0);
            Arrays.fill(wages, 0);
            laws.clear();
        }
    }

    /**
     * The E of all laws, each as a row of knots in the order of working out: a number itself, anything else the
     * sort of its token below 0.
     */
    private static final class Laws {
        final int[] row = new int[KNOTS_MOST];
        int size = 0;
        int knots = 0;
        final int[] starts = {NONE, NONE, NONE};
        final int[] ends = new int[LAWS];
        final long[] names = new long[NAMES];
        private final long[] stack = new long[KNOTS_MOST];

        void clear() {
            size = 0;
            knots = 0;
            Arrays.fill(starts, NONE);
        }

        void append(int knot) {
            if (size < KNOTS_MOST) {
                row[size] = knot;
                size++;
            }
        }

        boolean isTold(int law) {
            return starts[law] >= 0;
        }

        /** The value by the names as they are set; ERROR, too, if a sign finds no values (which no parsed row does). */
        long value(int law) {
            int top = 0;
            for (int i = starts[law]; i < ends[law]; i++) {
                int sort = -row[i];
                if (sort <= 0 || sort >= OWN) {
                    if (top >= KNOTS_MOST) {
                        return ERROR;
                    }
                    stack[top] = sort <= 0 ? -sort : names[sort - OWN];
                    top++;
                } else if (sort == NOT) {
                    if (top < 1) {
                        return ERROR;
                    }
                    stack[top - 1] = stack[top - 1] == 0 ? 1 : 0;
                } else {
                    if (top < 2) {
                        return ERROR;
                    }
                    top--;
                    long value = joined(sort, stack[top - 1], stack[top]);
                    if (value > VALUE_MOST || value < -VALUE_MOST) {
                        return ERROR;
                    }
                    stack[top - 1] = value;
                }
            }
            return top == 1 ? stack[0] : ERROR;
        }

        private static long joined(int sort, long left, long right) {
            switch (sort) {
                case '+': return left + right;
                case '-': return left - right;
                case '*':
                    // a product of two values may be beyond what a long holds
                    return left != 0 && Math.abs(right) > VALUE_MOST / Math.abs(left) ? ERROR : left * right;
                case '/': return right == 0 ? ERROR : left / right;
                case '<': return left < right ? 1 : 0;
                case AT_MOST: return left <= right ? 1 : 0;
                case '=': return left == right ? 1 : 0;
                case UNLIKE: return left != right ? 1 : 0;
                case AT_LEAST: return left >= right ? 1 : 0;
                case '>': return left > right ? 1 : 0;
                case AND: return left != 0 && right != 0 ? 1 : 0;
                case OR: return left != 0 || right != 0 ? 1 : 0;
                default: return ERROR;
            }
        }
    }

    /** A text cut into tokens. One that is none becomes BAD, so that the parser meets it at its place. */
    private static final class Tokens {
        final int[] sorts = new int[TAPE_MOST + 1];
        final int[] values = new int[TAPE_MOST + 1];
        final int[] places = new int[TAPE_MOST + 1];
        private int size = 0;
        private final int[] words = new int[WORD_COUNT];

        Tokens() {
            int word = 0;
            int start = 0;
            for (int i = 0; i < WORDS.length() && word < WORD_COUNT; i++) {
                if (WORDS.charAt(i) == ' ') {
                    words[word] <<= 5 * (6 - (i - start));
                    word++;
                    start = i + 1;
                } else {
                    words[word] = words[word] << 5 | (WORDS.charAt(i) - 'a' + 1);
                }
            }
        }

        void cut(byte[] bytes, int length) {
            size = 0;
            for (int at = 0; at < length && at < bytes.length; at++) {
                int sign = bytes[at];
                if (isLetter(sign)) {
                    at += cutWord(bytes, at, length) - 1;
                } else if (isDigit(sign)) {
                    at += cutNumber(bytes, at, length) - 1;
                } else if (sign != ' ' && sign != '\n') {
                    at += cutSign(bytes, at, length) - 1;
                }
            }
            append(END, 0, length);
        }

        private static boolean isLetter(int sign) {
            return sign >= 'a' && sign <= 'z';
        }

        private static boolean isDigit(int sign) {
            return sign >= '0' && sign <= '9';
        }

        private void append(int sort, int value, int place) {
            if (size <= TAPE_MOST) {
                sorts[size] = sort;
                values[size] = value;
                places[size] = place;
                size++;
            }
        }

        /** How many bytes it has, as with the others. */
        private int cutWord(byte[] bytes, int start, int length) {
            int letters = 0;
            int many = 0;
            for (int at = start; at < length && isLetter(bytes[at]); at++) {
                letters = many < 6 ? letters << 5 | (bytes[at] - 'a' + 1) : letters;
                many++;
            }
            if (many > 6) {
                append(BAD, 0, start);
                return many;
            }
            letters <<= 5 * (6 - many);
            int word = placeOf(letters, words, WORD_COUNT);
            append(word < 0 ? NAME : FIRST_WORD + word, letters, start);
            return many;
        }

        private int cutNumber(byte[] bytes, int start, int length) {
            int value = 0;
            int many = 0;
            for (int at = start; at < length && isDigit(bytes[at]); at++) {
                // no number of the text may be as large as that, so more digits tell nothing more
                value = Math.min(1000000, value * 10 + (bytes[at] - '0'));
                many++;
            }
            append(NUMBER, value, start);
            return many;
        }

        private int cutSign(byte[] bytes, int start, int length) {
            int sign = bytes[start];
            int next = start + 1 < length ? bytes[start + 1] : 0;
            int pair = BAD;
            if (next == '=' && sign == '<') {
                pair = AT_MOST;
            } else if (next == '=' && sign == '>') {
                pair = AT_LEAST;
            } else if (next == '>' && sign == '<') {
                pair = UNLIKE;
            }
            if (pair != BAD) {
                append(pair, 0, start);
                return 2;
            }
            append(isSign(sign) ? sign : BAD, 0, start);
            return 1;
        }

        private static boolean isSign(int sign) {
            switch (sign) {
                case ';': case '(': case ')': case '+': case '-': case '*': case '/': case '<': case '=': case '>':
                    return true;
                default:
                    return false;
            }
        }
    }

    /** Reads the tokens of a text from the first one on and stops at the first fault. */
    private static final class Parser {
        int faultFound = 0;
        int faultPlace = NONE;
        private final Tokens tokens = new Tokens();
        private int at = 0;
        private World world;
        private int hasCount = 0;
        /** Bits of what may be told but once: purses, wages, the seed. */
        private int toldOnce = 0;
        /** Signs of an E, and '(' , that wait for what is behind them. */
        private final int[] waiting = new int[KNOTS_MOST + OPEN_MOST];
        private int waits = 0;
        private int open = 0;

        Parser(World first) {
            world = first;
        }

        int readText(byte[] bytes, int length, World into) {
            tokens.cut(bytes, length);
            world = into;
            world.clear();
            at = 0;
            faultFound = 0;
            faultPlace = NONE;
            hasCount = 0;
            toldOnce = 0;
            int lines = 0;
            for (int i = 0; i <= TAPE_MOST && tokens.sorts[at] != END; i++) {
                if (!readLine()) {
                    return NONE;
                }
                lines++;
            }
            return lines;
        }

        private boolean wrong(int fault, int token) {
            faultFound = fault;
            faultPlace = tokens.places[token];
            return false;
        }

        private boolean readLine() {
            switch (tokens.sorts[at]) {
                case KIND: return readKind();
                case HAS: return readHas();
                case DEED: return readDeed();
                case DO: return readDo();
                case PURSE: return readPurse(world.firstPurses, 0, 999);
                case WAGE: return readPurse(world.wages, TWINS, 9);
                case SEED: return readSeed();
                case LAW: return readLaw();
                default: return wrong(MISPLACED, at);
            }
        }

        /** The word of a line, of which there are so many already. */
        private boolean isRoom(int many, int most) {
            if (many >= most) {
                return wrong(TOO_MUCH, at);
            }
            at++;
            return true;
        }

        private boolean readEnd() {
            if (tokens.sorts[at] != ';') {
                return wrong(MISPLACED, at);
            }
            at++;
            return true;
        }

        /** A number; below 0 with a fault. */
        private int readNumber(int most) {
            int fault = tokens.sorts[at] != NUMBER ? MISPLACED : tokens.values[at] > most ? TOO_MUCH : 0;
            if (fault != 0) {
                wrong(fault, at);
                return NONE;
            }
            at++;
            return tokens.values[at - 1];
        }

        /** A number with - or without; beyond what there can be with a fault. */
        private int readSigned(int most) {
            boolean isBelow = tokens.sorts[at] == '-';
            if (isBelow) {
                at++;
            }
            int number = readNumber(most);
            if (number < 0) {
                return Integer.MIN_VALUE;
            }
            return isBelow ? -number : number;
        }

        /** A name that is told here; below 0 with a fault. */
        private int readNewName(int[] names, int count) {
            int fault = tokens.sorts[at] != NAME ? MISPLACED
                    : placeOf(tokens.values[at], names, count) >= 0 ? TOLD_ALREADY : 0;
            if (fault != 0) {
                wrong(fault, at);
                return NONE;
            }
            at++;
            return tokens.values[at - 1];
        }

        /** The number of what a name is told of; below 0 with a fault. */
        private int readOldName(int[] names, int count) {
            if (tokens.sorts[at] != NAME) {
                wrong(MISPLACED, at);
                return NONE;
            }
            int found = placeOf(tokens.values[at], names, count);
            if (found < 0) {
                wrong(UNTOLD, at);
                return NONE;
            }
            at++;
            return found;
        }

        private boolean readKind() {
            int kind = world.kindCount;
            if (!isRoom(kind, KINDS_MOST)) {
                return false;
            }
            int name = readNewName(world.kindNames, kind);
            int shows = name < 0 ? NONE : readNumber(9);
            int heals = shows < 0 ? NONE : readNumber(9);
            if (heals < 0) {
                return false;
            }
            world.kindNames[kind] = name;
            world.shows[kind] = shows;
            world.heals[kind] = heals;
            world.kindCount++;
            return readEnd();
        }

        private boolean readHas() {
            if (!isRoom(hasCount, HAS_MOST)) {
                return false;
            }
            int twin = readNumber(1);
            int kind = twin < 0 ? NONE : readOldName(world.kindNames, world.kindCount);
            int amount = kind < 0 ? Integer.MIN_VALUE : readSigned(99);
            if (amount == Integer.MIN_VALUE) {
                return false;
            }
            world.firstAmounts[kind * TWINS + twin] = amount;
            hasCount++;
            return readEnd();
        }

        private boolean readDeed() {
            int deed = world.deedCount;
            if (!isRoom(deed, DEEDS_MOST)) {
                return false;
            }
            int name = readNewName(world.deedNames, deed);
            int kind = name < 0 ? NONE : readOldName(world.kindNames, world.kindCount);
            int by = kind < 0 ? Integer.MIN_VALUE : readSigned(9);
            int cost = by == Integer.MIN_VALUE ? NONE : readNumber(99);
            int odds = cost < 0 ? NONE : readNumber(100);
            if (odds < 0) {
                return false;
            }
            world.deedNames[deed] = name;
            world.deedKinds[deed] = kind;
            world.bys[deed] = by;
            world.costs[deed] = cost;
            world.odds[deed] = odds;
            world.deedCount++;
            return readEnd();
        }

        private boolean readDo() {
            int doing = world.doingCount;
            if (!isRoom(doing, DOINGS_MOST)) {
                return false;
            }
            int twin = readNumber(1);
            int deed = twin < 0 ? NONE : readOldName(world.deedNames, world.deedCount);
            int day = deed < 0 ? NONE : readNumber(99);
            if (day < 0) {
                return false;
            }
            world.doingTwins[doing] = twin;
            world.doingDeeds[doing] = deed;
            world.doingDays[doing] = day;
            world.doingCount++;
            return readEnd();
        }

        /** A purse or a wage: both tell a number of a twin, once of each. */
        private boolean readPurse(int[] into, int firstBit, int most) {
            at++;
            int twin = readNumber(1);
            if (twin < 0) {
                return false;
            }
            if (!isFirstTime(firstBit + twin)) {
                return wrong(TOLD_ALREADY, at - 1);
            }
            int number = readNumber(most);
            if (number < 0) {
                return false;
            }
            into[twin] = number;
            return readEnd();
        }

        private boolean isFirstTime(int bit) {
            boolean isFirst = (toldOnce >> bit & 1) == 0;
            toldOnce |= 1 << bit;
            return isFirst;
        }

        private boolean readSeed() {
            if (!isFirstTime(TWINS * 2)) {
                return wrong(TOLD_ALREADY, at);
            }
            at++;
            int seed = readNumber(99999);
            if (seed < 0) {
                return false;
            }
            world.seed = seed;
            return readEnd();
        }

        private boolean readLaw() {
            at++;
            int sort = tokens.sorts[at];
            if (sort < APART || sort > LUCK) {
                return wrong(MISPLACED, at);
            }
            int law = sort - APART;
            if (world.laws.isTold(law)) {
                return wrong(TOLD_ALREADY, at);
            }
            at++;
            world.laws.starts[law] = world.laws.size;
            if (!readValue()) {
                return false;
            }
            world.laws.ends[law] = world.laws.size;
            return readEnd();
        }

        /** An E. Values go to the row at once, signs as soon as nothing behind them binds more. */
        private boolean readValue() {
            waits = 0;
            open = 0;
            boolean isValueNext = true;
            for (int i = 0; i <= TAPE_MOST; i++) {
                int sort = tokens.sorts[at];
                if (isValueNext) {
                    if (!readPart(sort)) {
                        return false;
                    }
                    isValueNext = sort == NOT || sort == '(';
                } else if (sort == ')' && open > 0) {
                    release(0);
                    waits--;
                    open--;
                } else if (sort != NOT && bind(sort) > 0) {
                    if (!readSign(sort)) {
                        return false;
                    }
                    isValueNext = true;
                } else {
                    break;
                }
                at++;
            }
            if (open > 0) {
                return wrong(MISPLACED, at);
            }
            release(0);
            return true;
        }

        /** What stands where a value begins. */
        private boolean readPart(int sort) {
            if (sort == '(') {
                if (open >= OPEN_MOST) {
                    return wrong(TOO_MUCH, at);
                }
                open++;
                await(sort);
                return true;
            }
            boolean isValue = sort == NUMBER || (sort >= OWN && sort <= DAY);
            if (!isValue && !(sort == NOT && bind(lastWaiting()) <= bind(NOT))) {
                return wrong(MISPLACED, at);
            }
            if ((sort == NUMBER && tokens.values[at] > 9999) || !isKnotLeft()) {
                return wrong(TOO_MUCH, at);
            }
            if (isValue) {
                world.laws.append(sort == NUMBER ? tokens.values[at] : -sort);
            } else {
                await(sort);
            }
            return true;
        }

        /** A sign between two values. */
        private boolean readSign(int sort) {
            boolean isComparison = bind(sort) == bind('=');
            release(isComparison ? bind(sort) + 1 : bind(sort));
            if (isComparison && bind(lastWaiting()) == bind(sort)) {
                return wrong(MISPLACED, at);
            }
            if (!isKnotLeft()) {
                return wrong(TOO_MUCH, at);
            }
            await(sort);
            return true;
        }

        private boolean isKnotLeft() {
            if (world.laws.knots >= KNOTS_MOST) {
                return false;
            }
            world.laws.knots++;
            return true;
        }

        private void await(int sort) {
            if (waits < waiting.length) {
                waiting[waits] = sort;
                waits++;
            }
        }

        private int lastWaiting() {
            return waits > 0 ? waiting[waits - 1] : END;
        }

        /** The signs that wait and bind so much at least, down to a '(' , go to the row. */
        private void release(int least) {
            for (int i = waits - 1; i >= 0 && waiting[i] != '(' && bind(waiting[i]) >= least; i--) {
                world.laws.append(-waiting[i]);
                waits--;
            }
        }

        /** How much a sign binds; 0: it is none. */
        private static int bind(int sort) {
            switch (sort) {
                case OR: return 1;
                case AND: return 2;
                case NOT: return 3;
                case '<': case AT_MOST: case '=': case UNLIKE: case AT_LEAST: case '>': return 4;
                case '+': case '-': return 5;
                case '*': case '/': return 6;
                default: return 0;
            }
        }
    }

    /** All that days and calls change. */
    private static final class State {
        private final int[] amounts = new int[KINDS_MOST * TWINS];
        final int[] purses = new int[TWINS];
        final int[] outcomes = new int[DOINGS_MOST];
        int day = 0;
        int levelDays = 0;
        int offCount = 0;
        int vainCount = 0;
        int refusedCount = 0;
        int number = 0;

        void begin(World world) {
            System.arraycopy(world.firstAmounts, 0, amounts, 0, amounts.length);
            System.arraycopy(world.firstPurses, 0, purses, 0, TWINS);
            Arrays.fill(outcomes, NOT_YET);
            day = 0;
            levelDays = 0;
            offCount = 0;
            vainCount = 0;
            refusedCount = 0;
            number = world.seed;
        }

        void copyOf(State from) {
            System.arraycopy(from.amounts, 0, amounts, 0, amounts.length);
            System.arraycopy(from.purses, 0, purses, 0, TWINS);
            System.arraycopy(from.outcomes, 0, outcomes, 0, DOINGS_MOST);
            day = from.day;
            levelDays = from.levelDays;
            offCount = from.offCount;
            vainCount = from.vainCount;
            refusedCount = from.refusedCount;
            number = from.number;
        }

        int has(int kind, int twin) {
            return amounts[kind * TWINS + twin];
        }

        void put(int kind, int twin, int amount) {
            amounts[kind * TWINS + twin] = amount;
        }

        void add(int kind, int twin, int by) {
            put(kind, twin, Math.max(-AMOUNT_MOST, Math.min(AMOUNT_MOST, has(kind, twin) + by)));
        }

        int gapOf(int kind) {
            return Math.abs(has(kind, 0) - has(kind, 1));
        }

        boolean isLevel(int kinds) {
            for (int kind = 0; kind < kinds; kind++) {
                if (gapOf(kind) != 0) {
                    return false;
                }
            }
            return true;
        }

        int happyOf(int twin, int kinds) {
            int sum = 0;
            for (int kind = 0; kind < kinds; kind++) {
                sum += has(kind, twin);
            }
            return sum;
        }

        int nextNumber() {
            number = number * 1103515245 + 12345 & Integer.MAX_VALUE;
            return number / 65536;
        }
    }

    /** How days go by: as the text tells, or with something taken otherwise. */
    private static final class Course {
        World world;
        boolean hasHealing = true;
        boolean hasCosts = true;
        boolean hasWages = true;
        int idleTwin = NONE;
        /** The kind whose heals is taken otherwise. */
        int otherKind = NONE;
        int otherHeals = 0;
        private int luck = AS_IT_GOES;

        Course(World world) {
            this.world = world;
        }

        /** As the text tells, until something is set otherwise. */
        void take(World told, int luckWay) {
            world = told;
            luck = luckWay;
            hasHealing = true;
            hasCosts = true;
            hasWages = true;
            idleTwin = NONE;
            otherKind = NONE;
        }

        private int healsOf(int kind) {
            return kind == otherKind ? otherHeals : world.heals[kind];
        }

        /** The value of a law's E; ERROR without such a law, too. */
        long worked(State state, int law, int kind, int twin) {
            Laws laws = world.laws;
            if (!laws.isTold(law)) {
                return ERROR;
            }
            long[] names = laws.names;
            names[0] = state.has(kind, twin);
            names[1] = state.has(kind, 1 - twin);
            names[2] = state.gapOf(kind);
            names[3] = world.shows[kind];
            names[4] = healsOf(kind);
            names[5] = state.levelDays;
            names[6] = state.day;
            return laws.value(law);
        }

        private static int limited(long value, int most, int without) {
            return value == ERROR ? without : (int) Math.max(0, Math.min(most, value));
        }

        int distance(State state) {
            int sum = 0;
            for (int kind = 0; kind < world.kindCount; kind++) {
                sum += limited(worked(state, LAW_APART, kind, 0), APART_MOST, state.gapOf(kind));
            }
            return sum;
        }

        void passDays(State state, int n) {
            for (int i = 0; i < n; i++) {
                oneDay(state);
            }
        }

        void oneDay(State state) {
            for (int i = 0; i < world.doingCount; i++) {
                if (world.doingDays[i] == state.day && world.doingTwins[i] != idleTwin) {
                    tryDoing(state, i);
                }
            }
            for (int kind = 0; hasHealing && kind < world.kindCount; kind++) {
                heal(state, kind, 0);
                heal(state, kind, 1);
            }
            for (int twin = 0; hasWages && twin < TWINS; twin++) {
                state.purses[twin] = Math.min(PURSE_MOST, state.purses[twin] + world.wages[twin]);
            }
            if (state.isLevel(world.kindCount)) {
                state.levelDays++;
            }
            state.day++;
        }

        private void tryDoing(State state, int doing) {
            int twin = world.doingTwins[doing];
            int deed = world.doingDeeds[doing];
            int kind = world.deedKinds[deed];
            int cost = hasCosts ? world.costs[deed] : 0;
            if (state.purses[twin] < cost) {
                state.outcomes[doing] = REFUSED;
                state.refusedCount++;
                return;
            }
            state.purses[twin] -= cost;
            int odds = limited(worked(state, LAW_LUCK, kind, twin), 100, world.odds[deed]);
            if (comesOff(state, odds)) {
                state.add(kind, twin, world.bys[deed]);
                state.outcomes[doing] = OFF;
                state.offCount++;
            } else {
                state.outcomes[doing] = IN_VAIN;
                state.vainCount++;
            }
        }

        private boolean comesOff(State state, int odds) {
            if (luck == DRAWN) {
                // no number is drawn for what is sure either way
                return odds == 100 || (odds > 0 && state.nextNumber() % 100 < odds);
            }
            return luck == ALWAYS || odds >= 50;
        }

        private void heal(State state, int kind, int twin) {
            int amount = state.has(kind, twin);
            if (amount == 0) {
                return;
            }
            int by = limited(worked(state, LAW_HEAL, kind, twin), 9, healsOf(kind));
            state.put(kind, twin, amount > 0 ? Math.max(0, amount - by) : Math.min(0, amount + by));
        }
    }

    /** The best doings of some days: all rows of doings are tried, those that would be first of several ahead. */
    private static final class Planner {
        /** Whether what was found last still holds. */
        boolean isFresh = false;
        int least = 0;
        final int[] best = new int[PLAN_MOST];
        private final int[] chosen = new int[PLAN_MOST];
        private final State[] states = new State[PLAN_MOST + 1];
        private int ofTwin = 0;
        private int ofDays = 0;

        Planner() {
            for (int i = 0; i <= PLAN_MOST; i++) {
                states[i] = new State();
            }
        }

        boolean isFor(int twin, int days) {
            return isFresh && ofTwin == twin && ofDays == days;
        }

        void search(Course course, State now, int twin, int days) {
            ofTwin = twin;
            ofDays = days;
            least = Integer.MAX_VALUE;
            states[0].copyOf(now);
            searchFrom(course, 0);
            isFresh = true;
        }

        private void searchFrom(Course course, int day) {
            State before = states[day];
            if (day >= ofDays || day >= PLAN_MOST) {
                weigh(course.distance(before));
                return;
            }
            World world = course.world;
            for (int deed = NONE; deed < world.deedCount; deed++) {
                // what can't be paid is as none, and none was first
                if (deed >= 0 && before.purses[ofTwin] < world.costs[deed]) {
                    continue;
                }
                State behind = states[day + 1];
                behind.copyOf(before);
                if (deed >= 0) {
                    behind.purses[ofTwin] -= world.costs[deed];
                    behind.add(world.deedKinds[deed], ofTwin, world.bys[deed]);
                }
                chosen[day] = deed;
                course.oneDay(behind);
                searchFrom(course, day + 1);
            }
        }

        private void weigh(int far) {
            if (far < least) {
                least = far;
                System.arraycopy(chosen, 0, best, 0, PLAN_MOST);
            }
        }
    }

    /** Finds by what least a gap comes to 0. */
    private static final class Leveller {
        private static final int REACH = 200;
        private static final int PLACES = 2 * REACH + 1;
        private static final int BEYOND = 1000000;

        /** The least known for each that twin 0 may have more, from -REACH on. */
        private final int[] leasts = new int[PLACES];

        Leveller() {
        }

        /** Twins by bits; each deed counts as one or by its cost. */
        int least(World world, State state, int kind, int twins, boolean isByOne) {
            int more = state.has(kind, 0) - state.has(kind, 1);
            if (more < -REACH || more > REACH) {
                return NOTHING;
            }
            Arrays.fill(leasts, BEYOND);
            leasts[more + REACH] = 0;
            boolean isBetter = true;
            for (int round = 0; round <= PLACES && isBetter; round++) {
                isBetter = false;
                for (int i = 0; i < PLACES; i++) {
                    // every other round goes down, so that a long way either way is found at once
                    int place = (round & 1) == 0 ? i : PLACES - 1 - i;
                    if (leasts[place] < leasts[REACH] && spread(world, kind, place, twins, isByOne)) {
                        isBetter = true;
                    }
                }
            }
            return leasts[REACH] < BEYOND ? leasts[REACH] : NOTHING;
        }

        private boolean spread(World world, int kind, int place, int twins, boolean isByOne) {
            boolean isBetter = false;
            for (int deed = 0; deed < world.deedCount; deed++) {
                if (world.deedKinds[deed] != kind) {
                    continue;
                }
                int sum = leasts[place] + (isByOne ? 1 : world.costs[deed]);
                if ((twins & 1) != 0 && lower(place + world.bys[deed], sum)) {
                    isBetter = true;
                }
                if ((twins & 2) != 0 && lower(place - world.bys[deed], sum)) {
                    isBetter = true;
                }
            }
            return isBetter;
        }

        private boolean lower(int place, int sum) {
            if (place < 0 || place >= PLACES || leasts[place] <= sum) {
                return false;
            }
            leasts[place] = sum;
            return true;
        }
    }

    /** What can be undone: before each doing, giving, exchanging the purses and the amounts of its kind. */
    private static final class Ledger {
        private static final int WIDTH = 5;

        int size = 0;
        private final int[] rows = new int[UNDO_MOST * WIDTH];

        Ledger() {
        }

        void forget() {
            size = 0;
        }

        void push(State state, int kind) {
            if (size >= UNDO_MOST) {
                System.arraycopy(rows, WIDTH, rows, 0, rows.length - WIDTH);
                size = UNDO_MOST - 1;
            }
            int at = size * WIDTH;
            rows[at] = kind;
            rows[at + 1] = kind < 0 ? 0 : state.has(kind, 0);
            rows[at + 2] = kind < 0 ? 0 : state.has(kind, 1);
            rows[at + 3] = state.purses[0];
            rows[at + 4] = state.purses[1];
            size++;
        }

        void pop(State state) {
            if (size <= 0) {
                return;
            }
            size--;
            int at = size * WIDTH;
            int kind = rows[at];
            if (kind >= 0) {
                state.put(kind, 0, rows[at + 1]);
                state.put(kind, 1, rows[at + 2]);
            }
            state.purses[0] = rows[at + 3];
            state.purses[1] = rows[at + 4];
        }
    }

    /** Notes, sights and strikes, numbered together. */
    private static final class Tidings {
        static final int NOTE = 0;
        static final int SIGHT = 1;
        static final int STRIKE = 2;

        int size = 0;
        /** By how many it is known; NONE: by all, also those to come. */
        int knownBy = NONE;
        private final int[] sorts = new int[TOLD_MOST];
        /** The kind, of a strike the one that it strikes. */
        private final int[] subjects = new int[TOLD_MOST];
        private final int[] bounds = new int[TOLD_MOST];
        private final int[] days = new int[TOLD_MOST];
        private final boolean[] atLeasts = new boolean[TOLD_MOST];
        private final boolean[] counts = new boolean[TOLD_MOST];

        Tidings() {
        }

        void forget() {
            size = 0;
            knownBy = NONE;
        }

        int tell(int sort, int subject, int bound, int day, boolean atLeast) {
            if (size >= TOLD_MOST) {
                return NONE;
            }
            sorts[size] = sort;
            subjects[size] = subject;
            bounds[size] = bound;
            days[size] = day;
            atLeasts[size] = atLeast;
            size++;
            return size - 1;
        }

        int reach() {
            return knownBy < 0 ? size : Math.min(knownBy, size);
        }

        /** Finds which ones count. A strike strikes only what came before it, so the last ones are settled first. */
        void settle() {
            for (int i = 0; i < TOLD_MOST; i++) {
                counts[i] = i < reach();
            }
            for (int i = reach() - 1; i >= 0; i--) {
                if (counts[i] && sorts[i] == STRIKE) {
                    counts[subjects[i]] = false;
                }
            }
        }

        private boolean isSo(int i, int value) {
            return atLeasts[i] == (value >= bounds[i]);
        }

        boolean areNotesSo(State state, int twin) {
            for (int i = 0; i < size; i++) {
                if (counts[i] && sorts[i] == NOTE && !isSo(i, state.has(subjects[i], twin))) {
                    return false;
                }
            }
            return true;
        }

        int lastSightDay() {
            int last = 0;
            for (int i = 0; i < size; i++) {
                if (counts[i] && sorts[i] == SIGHT) {
                    last = Math.max(last, days[i]);
                }
            }
            return last;
        }

        /** Those of one day. */
        boolean areSightsSo(State state, int day) {
            for (int i = 0; i < size; i++) {
                boolean isAsked = counts[i] && sorts[i] == SIGHT && days[i] == day;
                if (isAsked && !isSo(i, state.gapOf(subjects[i]))) {
                    return false;
                }
            }
            return true;
        }
    }
}
