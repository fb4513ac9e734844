import java.util.Arrays;

/**
 * Keys on rings, felt in the dark by a thumb that errs. The document, ../shared/DOC.md, says what each call must
 * do; words in capitals are its words. All rows are made in constructors, since the calls of a long run share one
 * room: no call makes an object.
 */
public final class DarkRing {
    public static final int NONE = -1;

    private static final int MOST_FEATURES = 3;
    private static final int MOST_STEPS = 4;
    private static final int MOST_KEYS = 10;
    private static final int MOST_RINGS = 3;
    private static final int MOST_DOORS = 5;
    private static final int MOST_IN_ROUND = 12;
    private static final int MOST_LAID = 6;
    private static final int MOST_ORDERS = 720;
    private static final int MOST_MARKS = 3;
    private static final int MOST_ACTS = 4;
    private static final int MOST_SEED = 9999;
    private static final int MOST_RULE_BYTES = 300;
    private static final int SIXTEEN = 16;
    private static final int ALL_PARTS = 1000000;
    private static final int PLACES_AND_WAYS = 2 * MOST_KEYS;

    private static final int OK = 0;
    private static final int NO_TRAY = 1;
    private static final int NO_SUCH = 2;
    private static final int TRAY_MISSING = 3;
    private static final int NO_PLACE = 4;
    private static final int NO_NUMBER = 5;
    private static final int BELOW_NOTHING = 6;
    private static final int TOO_MANY = 7;
    private static final int THERE_IS_NONE = 8;
    private static final int CANT_BE = 9;
    private static final int FAULTY = 10;
    private static final int UNLIKE_SORTS = 11;

    private int status = OK;
    private long top = 0;
    private long bottom = 1;
    private final Tray[] trays = new Tray[4];
    private final Text text = new Text();
    private final House house = new House();
    private final Thought thought = new Thought(house);
    private final Rule rule = new Rule();
    private final HouseReader houseReader = new HouseReader(text);
    private final RuleReader ruleReader = new RuleReader(text, house);
    private final Search search = new Search(house);
    private final Likeness likeness = new Likeness(house);
    private final Acts acts = new Acts(house, thought);
    private final Game game = new Game(house, rule);
    private int marks = 0;
    private final House[] keptHouses = new House[MOST_MARKS];
    private final Thought[] keptThoughts = new Thought[MOST_MARKS];
    private final Rule[] keptRules = new Rule[MOST_MARKS];

    public DarkRing() {
        for (int i = 0; i < trays.length; i++) {
            trays[i] = new Tray();
        }
        for (int i = 0; i < MOST_MARKS; i++) {
            keptHouses[i] = new House();
            keptThoughts[i] = new Thought(house);
            keptRules[i] = new Rule();
        }
    }

    public int status() {
        return status;
    }

    public long top() {
        return top;
    }

    public long bottom() {
        return bottom;
    }

    // ---- TRAYS

    public boolean tray(int tray, int sort, int many) {
        Tray made = trayAt(tray);
        if (made == null || sort < 0 || sort > 3) return refused(NO_TRAY);
        if (many > Tray.MOST) return refused(NO_NUMBER);
        if (many < 0) return refused(BELOW_NOTHING);
        made.fresh(sort, many);
        return done();
    }

    public boolean write(int tray, int place, long v) {
        Tray to = trayAt(tray);
        if (to == null) return refused(NO_TRAY);
        if (to.isMissing()) return refused(TRAY_MISSING);
        if (!to.hasPlace(place)) return refused(NO_PLACE);
        to.keep(place, v);
        return done();
    }

    public long read(int tray, int place) {
        Tray from = trayAt(tray);
        if (from == null) return none(NO_TRAY);
        if (from.isMissing()) return none(TRAY_MISSING);
        if (!from.hasPlace(place)) return none(NO_PLACE);
        status = OK;
        return from.numberAt(place);
    }

    public boolean pour(int tray, int i, int to, int j, int many) {
        Tray one = trayAt(tray);
        Tray other = trayAt(to);
        if (one == null || other == null) return refused(NO_TRAY);
        if (one.isMissing() || other.isMissing()) return refused(TRAY_MISSING);
        if (one.sort != other.sort) return refused(UNLIKE_SORTS);
        if (many < 0) return refused(BELOW_NOTHING);
        if (!one.hasPlaces(i, many) || !other.hasPlaces(j, many)) return refused(NO_PLACE);
        other.copyFrom(one, i, j, many);
        return done();
    }

    // ---- the HOUSE

    public int feed(int a, int b, int c, int d, int e) {
        if (!text.hasRoom(20)) return NONE;
        text.append(a);
        text.append(b);
        text.append(c);
        text.append(d);
        text.append(e);
        return text.fed;
    }

    public int house(int n) {
        if (n < 0 || n > text.fed) return none(NO_NUMBER);
        text.begin(n);
        if (!houseReader.readAll()) return none(FAULTY);
        House.copy(houseReader.fresh, house);
        thought.letGo();
        return told(house.keys);
    }

    public int rule(int n) {
        if (n < 0 || n > text.fed || n > MOST_RULE_BYTES) return none(NO_NUMBER);
        text.begin(n);
        if (!ruleReader.readAll()) return none(FAULTY);
        Rule.copy(ruleReader.fresh, rule);
        return told(rule.steps);
    }

    public int fault(int what) {
        if (what == 0) return text.fault;
        if (what == 1) return text.faultPlace;
        return NONE;
    }

    public int many(int what) {
        switch (what) {
            case 0: return told(house.features);
            case 1: return told(house.keys);
            case 2: return told(house.rings);
            case 3: return told(house.doors);
            case 4: return told(house.roundMany);
            case 5: return told(house.secondsOf(House.FEEL));
            case 6: return told(house.secondsOf(House.TRY));
            case 7: return told(house.secondsOf(House.GO));
            case 8: return told(house.secondsOf(House.DROP));
            case 9: return told(house.turned);
            case 10: return told(thought.held);
            default: return none(NO_NUMBER);
        }
    }

    public int feature(int feature, int what) {
        if (!house.hasFeature(feature)) return none(NO_SUCH);
        if (what == 0) return told(house.stepsOf(feature));
        if (what == 1) return told(house.isTurned(feature) ? 1 : 0);
        return none(NO_NUMBER);
    }

    public int feels(int feature, int step, int felt) {
        if (!house.hasStep(feature, step) || !house.hasStep(feature, felt)) return none(NO_SUCH);
        return told(house.feltAs(feature, step, felt));
    }

    public int stepOf(int key, int feature) {
        if (!house.hasKey(key) || !house.hasFeature(feature)) return none(NO_SUCH);
        return told(house.stepAt(key, feature, 0));
    }

    public int key(int key, int what) {
        if (!house.hasKey(key)) return none(NO_SUCH);
        if (what < 0 || what > 2) return none(NO_NUMBER);
        if (what == 2) return told(house.isLent(key) ? 1 : 0);
        int ring = house.ringOf(key);
        if (ring == NONE) return none(THERE_IS_NONE);
        return told(what == 0 ? ring : house.placeOn(ring, key));
    }

    public int ring(int ring, int k) {
        if (!house.hasRing(ring)) return none(NO_SUCH);
        if (k == NONE) return told(house.manyThere(ring));
        int key = house.keyThere(ring, k);
        if (key == NONE) return none(THERE_IS_NONE);
        return told(key);
    }

    public int door(int door, int what) {
        if (!house.hasDoor(door)) return none(NO_SUCH);
        if (what == 0) return told(house.wantedOf(door));
        if (what == 1) return told(house.openersOf(door));
        return none(NO_NUMBER);
    }

    public int round(int k) {
        if (k < 0 || k >= house.roundMany) return none(THERE_IS_NONE);
        return told(at(house.roundDoors, k));
    }

    // ---- hands

    public boolean lay(int ring, int tray) {
        Tray order = trayAt(tray);
        if (order == null) return refused(NO_TRAY);
        if (!house.hasRing(ring)) return refused(NO_SUCH);
        if (order.isMissing()) return refused(TRAY_MISSING);
        if (order.many < house.manyOn(ring)) return refused(NO_PLACE);
        if (!isOrderOf(order, ring)) return refused(NO_NUMBER);
        for (int i = 0; i < order.many; i++) {
            house.layAt(ring, i, (int) order.numberAt(i));
        }
        thought.letGoOf(ring);
        return done();
    }

    public boolean lend(int key, boolean lent) {
        if (!house.hasKey(key)) return refused(NO_SUCH);
        house.setLent(key, lent);
        thought.letGoOf(house.ringOf(key));
        return done();
    }

    public boolean put(int key, int ring, int place) {
        if (!house.hasKey(key) || !house.hasRing(ring)) return refused(NO_SUCH);
        if (place < 0 || place > house.manyOn(ring)) return refused(NO_NUMBER);
        if (house.ringOf(key) != NONE) return refused(CANT_BE);
        house.putOn(key, ring, place);
        thought.letGoOf(ring);
        return done();
    }

    public boolean off(int key) {
        if (!house.hasKey(key)) return refused(NO_SUCH);
        int ring = house.ringOf(key);
        if (ring == NONE) return refused(THERE_IS_NONE);
        house.takeOff(key, ring);
        thought.letGoOf(ring);
        return done();
    }

    // ---- THOUGHT

    public boolean take(int ring) {
        if (!house.hasRing(ring)) return refused(NO_SUCH);
        if (house.manyThere(ring) == 0) return refused(THERE_IS_NONE);
        thought.begin(ring);
        return done();
    }

    public int part(int place, int way) {
        if (!thought.isHeld()) return none(THERE_IS_NONE);
        if (place < 0 || place >= thought.places || !isWay(way)) return none(NO_NUMBER);
        return told((int) thought.partOf(place, way));
    }

    public boolean feel(int feature, int felt) {
        if (!house.hasStep(feature, felt)) return refused(NO_SUCH);
        if (!thought.isHeld()) return refused(THERE_IS_NONE);
        if (!thought.learnFelt(feature, felt)) return refused(CANT_BE);
        return done();
    }

    public boolean goOn() {
        if (!thought.isHeld()) return refused(THERE_IS_NONE);
        thought.moveOn();
        return done();
    }

    public boolean turn() {
        if (!thought.isHeld()) return refused(THERE_IS_NONE);
        thought.swapWays();
        return done();
    }

    public boolean tried(int door, boolean opens) {
        if (!house.hasDoor(door)) return refused(NO_SUCH);
        if (!thought.isHeld()) return refused(THERE_IS_NONE);
        if (!thought.learnTried(door, opens)) return refused(CANT_BE);
        return done();
    }

    public boolean here(int key) {
        if (!house.hasKey(key)) return refused(NO_SUCH);
        if (!thought.isHeld()) return refused(THERE_IS_NONE);
        return toldFraction(thought.partsOfKey(key), ALL_PARTS);
    }

    public boolean opens(int door) {
        if (!house.hasDoor(door)) return refused(NO_SUCH);
        if (!thought.isHeld()) return refused(THERE_IS_NONE);
        return toldFraction(thought.partsThatOpen(door), ALL_PARTS);
    }

    public boolean worth(int door, int k) {
        if (!house.hasDoor(door)) return refused(NO_SUCH);
        if (k < 0 || k > MOST_ACTS) return refused(NO_NUMBER);
        if (!thought.isHeld()) return refused(THERE_IS_NONE);
        acts.weigh(door, k);
        return toldFraction(acts.mostWorth, (long) ALL_PARTS << (4 * k));
    }

    public int next(int door, int k) {
        if (!house.hasDoor(door)) return none(NO_SUCH);
        if (k < 1 || k > MOST_ACTS) return none(NO_NUMBER);
        if (!thought.isHeld()) return none(THERE_IS_NONE);
        acts.weigh(door, k);
        return told(acts.firstAct);
    }

    // ---- SEARCHED

    public int searched(int ring, int door, int place, int way) {
        if (!house.hasRing(ring) || !house.hasDoor(door)) return none(NO_SUCH);
        search.load(ring);
        if (!search.hasPlace(place) || !isWay(way)) return none(NO_NUMBER);
        if (!search.someOpens(door)) return none(THERE_IS_NONE);
        return told(search.secondsFrom(door, place, way));
    }

    public boolean from(int ring, int place, int way) {
        if (!house.hasRing(ring)) return refused(NO_SUCH);
        search.load(ring);
        if (!search.hasPlace(place) || !isWay(way)) return refused(NO_NUMBER);
        int wanted = search.wantedTogether();
        if (wanted == 0) return refused(THERE_IS_NONE);
        return toldFraction(search.wantedSecondsFrom(place, way), wanted);
    }

    public boolean anywhere(int ring) {
        if (!house.hasRing(ring)) return refused(NO_SUCH);
        search.load(ring);
        int wanted = search.wantedTogether();
        if (wanted == 0) return refused(THERE_IS_NONE);
        return toldFraction(search.wantedSecondsAnywhere(), (long) wanted * search.places);
    }

    public int laid(int ring, boolean anywhere) {
        if (!house.hasRing(ring)) return none(NO_SUCH);
        search.load(ring);
        if (search.places > MOST_LAID) return none(TOO_MANY);
        int wanted = search.wantedTogether();
        if (wanted == 0) return none(THERE_IS_NONE);
        long least = search.findOrder(anywhere ? Search.BY_ANYWHERE : Search.BY_START);
        toldFraction(least, anywhere ? (long) wanted * search.places : wanted);
        return told(search.foundAt(0));
    }

    public int inRow(int door) {
        if (!house.hasDoor(door)) return none(NO_SUCH);
        if (!search.findRings(door)) return none(THERE_IS_NONE);
        toldFraction(search.meanTop, search.meanBottom);
        return told(search.foundMany);
    }

    public int walked(int ring) {
        if (!house.hasRing(ring)) return none(NO_SUCH);
        search.load(ring);
        if (!search.canWalk()) return none(THERE_IS_NONE);
        return told(search.secondsOfRound());
    }

    public int laidForRound(int ring) {
        if (!house.hasRing(ring)) return none(NO_SUCH);
        search.load(ring);
        if (search.places > MOST_LAID) return none(TOO_MANY);
        if (!search.canWalk()) return none(THERE_IS_NONE);
        return told(search.findOrder(Search.BY_ROUND));
    }

    public int found(int k) {
        if (k < 0 || k >= search.foundMany) return none(THERE_IS_NONE);
        return told(search.foundAt(k));
    }

    // ---- to tell apart

    public int alike(int ring) {
        if (!house.hasRing(ring)) return none(NO_SUCH);
        likeness.load(ring);
        return told(likeness.couplesAlike());
    }

    public int apart(int ring, boolean turned) {
        if (!house.hasRing(ring)) return none(NO_SUCH);
        likeness.load(ring);
        int set = likeness.fewestFeatures(turned);
        if (set == NONE) return none(THERE_IS_NONE);
        return told(set);
    }

    public int filed(int ring, int sorts) {
        if (!house.hasRing(ring)) return none(NO_SUCH);
        if (sorts < 2 || sorts > 9) return none(NO_NUMBER);
        likeness.load(ring);
        int fewest = likeness.fewestFiled(sorts);
        if (fewest == NONE) return none(CANT_BE);
        return told(fewest);
    }

    public int known(int ring, boolean turned) {
        if (!house.hasRing(ring)) return none(NO_SUCH);
        likeness.load(ring);
        int least = likeness.leastInRow(turned);
        if (least == NONE) return none(THERE_IS_NONE);
        return told(least);
    }

    public boolean missing(int key, int door, int lent, int t) {
        if (!house.hasKey(key) || !house.hasDoor(door)) return refused(NO_SUCH);
        if (lent < 0 || lent > SIXTEEN || t < 0) return refused(NO_NUMBER);
        // A KEY that lies about has no RING, so there is no number of KEYS there that t could be above.
        int ring = house.ringOf(key);
        if (ring == NONE) return refused(CANT_BE);
        int n = house.manyThere(ring);
        if (t > n) return refused(NO_NUMBER);
        if (!house.isOnlyOpener(key, door) || (lent == 0 && t == n)) return refused(CANT_BE);
        return toldFraction(lent * n, lent * n + (SIXTEEN - lent) * (n - t));
    }

    public int soon(int key, int door, int lent, int sure) {
        if (!house.hasKey(key) || !house.hasDoor(door)) return none(NO_SUCH);
        if (lent < 0 || lent > SIXTEEN || sure < 1 || sure > SIXTEEN) return none(NO_NUMBER);
        if (!house.isOnlyOpener(key, door)) return none(CANT_BE);
        // A KEY that is never lent is never missing, not even behind all tries.
        if (lent == 0) return none(THERE_IS_NONE);
        int n = house.manyThere(house.ringOf(key));
        for (int t = 0; t <= n; t++) {
            int bottomOfT = lent * n + (SIXTEEN - lent) * (n - t);
            if (SIXTEEN * lent * n >= sure * bottomOfT) return told(t);
        }
        return none(THERE_IS_NONE);
    }

    public int newly(int key, int ring, int door) {
        if (!house.hasKey(key) || !house.hasRing(ring) || !house.hasDoor(door)) return none(NO_SUCH);
        if (house.ringOf(key) != NONE || house.isLent(key)) return none(CANT_BE);
        int place = search.findPlace(key, ring, door);
        if (place == NONE) return none(THERE_IS_NONE);
        toldFraction(search.meanTop, search.meanBottom);
        return told(place);
    }

    // ---- RULES, MARKS

    public int play(int ring, int door, int seed) {
        if (!house.hasRing(ring) || !house.hasDoor(door)) return none(NO_SUCH);
        if (seed < 0 || seed > MOST_SEED) return none(NO_NUMBER);
        if (house.manyThere(ring) == 0) return none(THERE_IS_NONE);
        game.run(ring, door, seed);
        game.keep();
        return told(game.open ? 1 : 0);
    }

    public int played(int what) {
        if (!game.hasKept(what)) return none(NO_NUMBER);
        if (!game.isKept) return none(THERE_IS_NONE);
        return told(game.keptOf(what));
    }

    public int tally(int ring, int door, int seed, int many) {
        if (!house.hasRing(ring) || !house.hasDoor(door)) return none(NO_SUCH);
        if (seed < 0 || seed > MOST_SEED || many < 1 || many > 30) return none(NO_NUMBER);
        if (seed + many - 1 > MOST_SEED) return none(NO_NUMBER);
        if (house.manyThere(ring) == 0) return none(THERE_IS_NONE);
        int opened = 0;
        long seconds = 0;
        for (int i = 0; i < many; i++) {
            game.run(ring, door, seed + i);
            if (game.open) opened++;
            seconds += game.seconds;
        }
        toldFraction(seconds, many);
        return told(opened);
    }

    public int mark() {
        if (marks < 0 || marks >= MOST_MARKS) return none(TOO_MANY);
        House.copy(house, keptHouses[marks]);
        Thought.copy(thought, keptThoughts[marks]);
        Rule.copy(rule, keptRules[marks]);
        marks++;
        return told(marks);
    }

    public int back() {
        if (marks < 1 || marks > MOST_MARKS) return none(THERE_IS_NONE);
        marks--;
        House.copy(keptHouses[marks], house);
        Thought.copy(keptThoughts[marks], thought);
        Rule.copy(keptRules[marks], rule);
        return told(marks);
    }

    // ---- answers, and rows looked into with care

    private boolean done() {
        status = OK;
        return true;
    }

    private int told(int answer) {
        status = OK;
        return answer;
    }

    private boolean refused(int why) {
        status = why;
        return false;
    }

    private int none(int why) {
        status = why;
        return NONE;
    }

    private boolean toldFraction(long up, long down) {
        long common = commonDivisor(up, down);
        if (common > 0) {
            top = up / common;
            bottom = down / common;
        }
        return done();
    }

    /** Of two numbers not below 0. */
    private static long commonDivisor(long a, long b) {
        long x = a;
        long y = b;
        for (int i = 0; i < 200 && y != 0; i++) {
            long rest = x % y;
            x = y;
            y = rest;
        }
        return x;
    }

    private Tray trayAt(int tray) {
        return tray >= 0 && tray < trays.length ? trays[tray] : null;
    }

    private static boolean isWay(int way) {
        return way == 0 || way == 1;
    }

    /** As many numbers as the RING has KEYS, or more: that none is another KEY or one again makes it an order. */
    private boolean isOrderOf(Tray order, int ring) {
        int left = house.setOn(ring);
        for (int i = 0; i < order.many; i++) {
            long key = order.numberAt(i);
            if (key < 0 || key >= MOST_KEYS || (left >> (int) key & 1) == 0) return false;
            left -= 1 << (int) key;
        }
        return true;
    }

    private static int at(int[] row, int i) {
        return i >= 0 && i < row.length ? row[i] : NONE;
    }

    private static void keepAt(int[] row, int i, int v) {
        if (i >= 0 && i < row.length) row[i] = v;
    }

    private static long longAt(long[] row, int i) {
        return i >= 0 && i < row.length ? row[i] : 0;
    }

    private static void keepLongAt(long[] row, int i, long v) {
        if (i >= 0 && i < row.length) row[i] = v;
    }

    /** Where a PLACE so many on, or back, is in a ring of n. */
    private static int inRing(int place, int n) {
        return n > 0 ? Math.floorMod(place, n) : 0;
    }

    /** A TRAY; MISSING till it is made. */
    private static final class Tray {
        static final int MOST = 60;
        int sort = 0;
        int many = NONE;
        private final long[] row = new long[MOST];

        boolean isMissing() {
            return many == NONE;
        }

        void fresh(int newSort, int newMany) {
            sort = newSort;
            many = newMany;
            Arrays.fill(row, 0L);
        }

        boolean hasPlace(int place) {
            return place >= 0 && place < many;
        }

        boolean hasPlaces(int first, int count) {
            return first >= 0 && count >= 0 && first <= many - count;
        }

        long numberAt(int place) {
            return longAt(row, place);
        }

        void keep(int place, long v) {
            keepLongAt(row, place, cut(v));
        }

        private long cut(long v) {
            switch (sort) {
                case 0: return (byte) v;
                case 1: return (short) v;
                case 2: return (int) v;
                default: return v;
            }
        }

        void copyFrom(Tray other, int i, int j, int count) {
            if (other.hasPlaces(i, count) && hasPlaces(j, count)) {
                System.arraycopy(other.row, i, row, j, count);
            }
        }
    }

    /** The HOUSE as it is: what its TEXT tells, the orders on RINGS, who is LENT. */
    private static final class House {
        static final int FEEL = 0;
        static final int TRY = 1;
        static final int GO = 2;
        static final int DROP = 3;

        int features;
        private final long[] featureNames = new long[MOST_FEATURES];
        private final int[] steps = new int[MOST_FEATURES];
        private final int[] turnedFeatures = new int[MOST_FEATURES];
        private final int[] sixteenths = new int[MOST_FEATURES * MOST_STEPS * MOST_STEPS];
        int keys;
        private final int[] keySteps = new int[MOST_KEYS * MOST_FEATURES];
        private int lent;
        int rings;
        private final int[] on = new int[MOST_RINGS * MOST_KEYS];
        private final int[] onMany = new int[MOST_RINGS];
        int doors;
        private final int[] wanted = new int[MOST_DOORS];
        private final int[] openers = new int[MOST_DOORS];
        private final int[] seconds = new int[4];
        int turned;
        int roundMany;
        private final int[] roundDoors = new int[MOST_IN_ROUND];

        House() {
            clear();
        }

        void clear() {
            features = 0;
            keys = 0;
            lent = 0;
            rings = 0;
            doors = 0;
            setSeconds(FEEL, 1);
            setSeconds(TRY, 4);
            setSeconds(GO, 1);
            setSeconds(DROP, 9);
            turned = 8;
            roundMany = 0;
        }

        static void copy(House from, House to) {
            if (from == null || to == null) return;
            to.features = from.features;
            System.arraycopy(from.featureNames, 0, to.featureNames, 0, MOST_FEATURES);
            System.arraycopy(from.steps, 0, to.steps, 0, MOST_FEATURES);
            System.arraycopy(from.turnedFeatures, 0, to.turnedFeatures, 0, MOST_FEATURES);
            System.arraycopy(from.sixteenths, 0, to.sixteenths, 0, MOST_FEATURES * MOST_STEPS * MOST_STEPS);
            to.keys = from.keys;
            System.arraycopy(from.keySteps, 0, to.keySteps, 0, MOST_KEYS * MOST_FEATURES);
            to.lent = from.lent;
            to.rings = from.rings;
            System.arraycopy(from.on, 0, to.on, 0, MOST_RINGS * MOST_KEYS);
            System.arraycopy(from.onMany, 0, to.onMany, 0, MOST_RINGS);
            to.doors = from.doors;
            System.arraycopy(from.wanted, 0, to.wanted, 0, MOST_DOORS);
            System.arraycopy(from.openers, 0, to.openers, 0, MOST_DOORS);
            System.arraycopy(from.seconds, 0, to.seconds, 0, 4);
            to.turned = from.turned;
            to.roundMany = from.roundMany;
            System.arraycopy(from.roundDoors, 0, to.roundDoors, 0, MOST_IN_ROUND);
        }

        boolean hasFeature(int feature) {
            return feature >= 0 && feature < features;
        }

        boolean hasStep(int feature, int step) {
            return step >= 0 && step < stepsOf(feature);
        }

        boolean hasKey(int key) {
            return key >= 0 && key < keys;
        }

        boolean hasRing(int ring) {
            return ring >= 0 && ring < rings;
        }

        boolean hasDoor(int door) {
            return door >= 0 && door < doors;
        }

        int stepsOf(int feature) {
            return hasFeature(feature) ? at(steps, feature) : 0;
        }

        boolean isTurned(int feature) {
            return hasFeature(feature) && at(turnedFeatures, feature) == 1;
        }

        int featureNamed(long name) {
            for (int i = 0; i < features; i++) {
                if (longAt(featureNames, i) == name) return i;
            }
            return NONE;
        }

        int feltAs(int feature, int step, int felt) {
            if (step < 0 || step >= MOST_STEPS || felt < 0 || felt >= MOST_STEPS) return 0;
            return at(sixteenths, (feature * MOST_STEPS + step) * MOST_STEPS + felt);
        }

        /** The STEP of a KEY as it is met with a way: a turned FEATURE is met the other way round with way 1. */
        int stepAt(int key, int feature, int way) {
            if (!hasKey(key) || !hasFeature(feature)) return NONE;
            int step = at(keySteps, key * MOST_FEATURES + feature);
            boolean isOtherWayRound = way == 1 && at(turnedFeatures, feature) == 1;
            return isOtherWayRound ? at(steps, feature) - 1 - step : step;
        }

        int feltAsAt(int key, int feature, int way, int felt) {
            return feltAs(feature, stepAt(key, feature, way), felt);
        }

        boolean unlocks(int key, int door) {
            return hasDoor(door) && hasKey(key) && (at(openers, door) >> key & 1) == 1;
        }

        int openersOf(int door) {
            return hasDoor(door) ? at(openers, door) : 0;
        }

        int wantedOf(int door) {
            return hasDoor(door) ? at(wanted, door) : 0;
        }

        int secondsOf(int act) {
            return at(seconds, act);
        }

        boolean isLent(int key) {
            return hasKey(key) && (lent >> key & 1) == 1;
        }

        int manyOn(int ring) {
            return hasRing(ring) ? at(onMany, ring) : 0;
        }

        int keyOn(int ring, int place) {
            return place >= 0 && place < manyOn(ring) ? at(on, ring * MOST_KEYS + place) : NONE;
        }

        int setOn(int ring) {
            int set = 0;
            for (int i = 0; i < manyOn(ring); i++) {
                set |= 1 << keyOn(ring, i);
            }
            return set;
        }

        int placeOn(int ring, int key) {
            for (int i = 0; i < manyOn(ring); i++) {
                if (keyOn(ring, i) == key) return i;
            }
            return NONE;
        }

        int ringOf(int key) {
            for (int ring = 0; ring < rings; ring++) {
                if (placeOn(ring, key) != NONE) return ring;
            }
            return NONE;
        }

        /** The KEYS that are there, by PLACE, come to a row: how many. */
        int rowThere(int ring, int[] row) {
            int many = 0;
            for (int i = 0; i < manyOn(ring); i++) {
                int key = keyOn(ring, i);
                if (!isLent(key)) {
                    keepAt(row, many, key);
                    many++;
                }
            }
            return many;
        }

        int manyThere(int ring) {
            int many = 0;
            for (int i = 0; i < manyOn(ring); i++) {
                if (!isLent(keyOn(ring, i))) many++;
            }
            return many;
        }

        int keyThere(int ring, int k) {
            int many = 0;
            for (int i = 0; i < manyOn(ring); i++) {
                int key = keyOn(ring, i);
                if (isLent(key)) continue;
                if (many == k) return key;
                many++;
            }
            return NONE;
        }

        boolean isOnlyOpener(int key, int door) {
            int ring = ringOf(key);
            if (ring == NONE || isLent(key) || !unlocks(key, door)) return false;
            for (int i = 0; i < manyOn(ring); i++) {
                int other = keyOn(ring, i);
                if (other != key && !isLent(other) && unlocks(other, door)) return false;
            }
            return true;
        }

        void addFeature(long name, int many, boolean isTurnedOne) {
            keepLongAt(featureNames, features, name);
            keepAt(steps, features, many);
            keepAt(turnedFeatures, features, isTurnedOne ? 1 : 0);
            features++;
            for (int step = 0; step < MOST_STEPS; step++) {
                for (int felt = 0; felt < MOST_STEPS; felt++) {
                    setFeltAs(features - 1, step, felt, step == felt ? SIXTEEN : 0);
                }
            }
        }

        void setFeltAs(int feature, int step, int felt, int many) {
            keepAt(sixteenths, (feature * MOST_STEPS + step) * MOST_STEPS + felt, many);
        }

        void setStep(int key, int feature, int step) {
            keepAt(keySteps, key * MOST_FEATURES + feature, step);
        }

        void setSeconds(int act, int many) {
            keepAt(seconds, act, many);
        }

        void setLent(int key, boolean isLentNow) {
            if (!hasKey(key)) return;
            lent = isLentNow ? lent | 1 << key : lent & ~(1 << key);
        }

        void addRing() {
            keepAt(onMany, rings, 0);
            rings++;
        }

        void addDoor(int often) {
            keepAt(wanted, doors, often);
            keepAt(openers, doors, 0);
            doors++;
        }

        void addOpener(int door, int key) {
            keepAt(openers, door, openersOf(door) | 1 << key);
        }

        void addToRound(int door) {
            keepAt(roundDoors, roundMany, door);
            roundMany++;
        }

        void layAt(int ring, int place, int key) {
            if (place >= 0 && place < manyOn(ring)) keepAt(on, ring * MOST_KEYS + place, key);
        }

        void putOn(int key, int ring, int place) {
            int many = manyOn(ring);
            if (!hasRing(ring) || many >= MOST_KEYS) return;
            keepAt(onMany, ring, many + 1);
            for (int i = many; i > place; i--) {
                layAt(ring, i, keyOn(ring, i - 1));
            }
            layAt(ring, place, key);
        }

        void takeOff(int key, int ring) {
            int place = placeOn(ring, key);
            if (place == NONE) return;
            int last = manyOn(ring) - 1;
            for (int i = place; i < last; i++) {
                layAt(ring, i, keyOn(ring, i + 1));
            }
            keepAt(onMany, ring, last);
        }
    }

    /** Which RING is HELD, and the parts of each PLACE and way, PLACE by PLACE, way 0 ahead. */
    private static final class Thought {
        private final House house;
        int held = NONE;
        int places = 0;
        private final int[] row = new int[MOST_KEYS];
        private final long[] parts = new long[PLACES_AND_WAYS];
        private final long[] weights = new long[PLACES_AND_WAYS];

        Thought(House house) {
            this.house = house;
        }

        static void copy(Thought from, Thought to) {
            if (from == null || to == null) return;
            to.held = from.held;
            to.places = from.places;
            System.arraycopy(from.row, 0, to.row, 0, MOST_KEYS);
            System.arraycopy(from.parts, 0, to.parts, 0, PLACES_AND_WAYS);
        }

        boolean isHeld() {
            return held != NONE;
        }

        void letGo() {
            held = NONE;
        }

        void letGoOf(int ring) {
            if (held == ring) held = NONE;
        }

        void begin(int ring) {
            held = ring;
            places = house.rowThere(ring, row);
            beginAgain();
        }

        /** THOUGHT as at first. */
        void beginAgain() {
            for (int i = 0; i < PLACES_AND_WAYS; i++) {
                weights[i] = (i & 1) == 0 ? SIXTEEN - house.turned : house.turned;
            }
            shareOut();
        }

        int keyAt(int place) {
            return place >= 0 && place < places ? at(row, place) : NONE;
        }

        int placesAndWays() {
            return Math.min(2 * places, PLACES_AND_WAYS);
        }

        long partOf(int place, int way) {
            return longAt(parts, 2 * place + way);
        }

        /** The weights shared out; false, and all is as it was, if all are 0. */
        private boolean shareOut() {
            int many = placesAndWays();
            long together = 0;
            int greatest = 0;
            for (int i = 0; i < many; i++) {
                together += weights[i];
                if (weights[i] > weights[greatest]) greatest = i;
            }
            if (together <= 0) return false;
            long lacking = ALL_PARTS;
            for (int i = 0; i < many; i++) {
                parts[i] = weights[i] * ALL_PARTS / together;
                lacking -= parts[i];
            }
            parts[greatest] += lacking;
            return true;
        }

        boolean learnFelt(int feature, int felt) {
            int many = placesAndWays();
            for (int i = 0; i < many; i++) {
                long part = parts[i];
                weights[i] = part == 0 ? 0 : part * house.feltAsAt(keyAt(i >> 1), feature, i & 1, felt);
            }
            return shareOut();
        }

        boolean learnTried(int door, boolean isOpen) {
            int many = placesAndWays();
            for (int i = 0; i < many; i++) {
                weights[i] = house.unlocks(keyAt(i >> 1), door) == isOpen ? parts[i] : 0;
            }
            return shareOut();
        }

        void moveOn() {
            moved(parts, 0, weights, 0, places);
            System.arraycopy(weights, 0, parts, 0, PLACES_AND_WAYS);
        }

        /** With way 0 all comes to the next PLACE, with way 1 to the one ahead. */
        static void moved(long[] from, int i, long[] to, int j, int places) {
            for (int place = 0; place < places; place++) {
                int next = inRing(place + 1, places);
                keepLongAt(to, j + 2 * next, longAt(from, i + 2 * place));
                keepLongAt(to, j + 2 * place + 1, longAt(from, i + 2 * next + 1));
            }
        }

        void swapWays() {
            for (int place = 0; place < places; place++) {
                long asTold = partOf(place, 0);
                keepLongAt(parts, 2 * place, partOf(place, 1));
                keepLongAt(parts, 2 * place + 1, asTold);
            }
        }

        long partsOfKey(int key) {
            long sum = 0;
            for (int place = 0; place < places; place++) {
                if (keyAt(place) == key) sum += partOf(place, 0) + partOf(place, 1);
            }
            return sum;
        }

        long partsThatOpen(int door) {
            long sum = 0;
            for (int place = 0; place < places; place++) {
                if (house.unlocks(keyAt(place), door)) sum += partOf(place, 0) + partOf(place, 1);
            }
            return sum;
        }
    }

    /** WORTH and NEXT: weights stay whole numbers, since each ACT left multiplies all by 16. */
    private static final class Acts {
        static final int TRY = 0;
        static final int GO = 1;
        static final int FEEL = 2;

        private final House house;
        private final Thought thought;
        private final long[] weights = new long[(MOST_ACTS + 1) * PLACES_AND_WAYS];
        private int many;
        private int door;
        long mostWorth;
        int firstAct;

        Acts(House house, Thought thought) {
            this.house = house;
            this.thought = thought;
        }

        /** The WORTH of k ACTS, times 16 for each of them, and the first one of the best. */
        void weigh(int forDoor, int k) {
            door = forDoor;
            many = thought.placesAndWays();
            for (int i = 0; i < many; i++) {
                keepLongAt(weights, i, thought.partOf(i >> 1, i & 1));
            }
            mostWorth = NONE;
            firstAct = NONE;
            for (int act = 0; act < FEEL + house.features; act++) {
                long now = worthAfter(act, 0, k);
                if (now > mostWorth) {
                    mostWorth = now;
                    firstAct = act;
                }
            }
        }

        /**
         * Behind the first ACT at most three are left, and then to feel is never best: the two behind a feeling open
         * the DOOR here or at the next PLACE, or not at all, which to try, to go on and to try does as well.
         */
        private long worthOf(int level, int k) {
            if (k <= 0 || level > MOST_ACTS) return 0;
            return Math.max(worthAfter(TRY, level, k), worthAfter(GO, level, k));
        }

        private long worthAfter(int act, int level, int k) {
            if (k <= 0 || level >= MOST_ACTS) return 0;
            if (act == TRY) {
                long opened = tryInto(level);
                return (opened << (4 * k)) + SIXTEEN * worthOf(level + 1, k - 1);
            }
            if (act == GO) {
                Thought.moved(weights, first(level), weights, first(level + 1), thought.places);
                return SIXTEEN * worthOf(level + 1, k - 1);
            }
            int feature = act - FEEL;
            long sum = 0;
            for (int felt = 0; felt < house.stepsOf(feature); felt++) {
                if (feelInto(level, feature, felt)) sum += worthOf(level + 1, k - 1);
            }
            return sum;
        }

        private static int first(int level) {
            return level * PLACES_AND_WAYS;
        }

        /** What opens is told; what does not open is left for the next level. */
        private long tryInto(int level) {
            long opened = 0;
            for (int i = 0; i < many; i++) {
                long weight = longAt(weights, first(level) + i);
                boolean isOpen = house.unlocks(thought.keyAt(i >> 1), door);
                if (isOpen) opened += weight;
                keepLongAt(weights, first(level + 1) + i, isOpen ? 0 : weight);
            }
            return opened;
        }

        private boolean feelInto(int level, int feature, int felt) {
            boolean some = false;
            for (int i = 0; i < many; i++) {
                long weight = longAt(weights, first(level) + i);
                if (weight != 0) weight *= house.feltAsAt(thought.keyAt(i >> 1), feature, i & 1, felt);
                if (weight != 0) some = true;
                keepLongAt(weights, first(level + 1) + i, weight);
            }
            return some;
        }
    }

    /** SECONDS of searching on a row of KEYS, and the orders that are best for it. */
    private static final class Search {
        static final int BY_START = 0;
        static final int BY_ANYWHERE = 1;
        static final int BY_ROUND = 2;

        private final House house;
        private final int[] row = new int[MOST_KEYS];
        int places;
        private final int[] found = new int[MOST_KEYS];
        int foundMany = 0;
        private final int[] ringRow = new int[MOST_RINGS];
        private final int[] ringPlaces = new int[MOST_RINGS];
        private final int[] ringSeconds = new int[MOST_RINGS];
        private final boolean[] ringOpens = new boolean[MOST_RINGS];
        long meanTop = 0;
        long meanBottom = 1;

        Search(House house) {
            this.house = house;
        }

        void load(int ring) {
            places = house.rowThere(ring, row);
        }

        boolean hasPlace(int place) {
            return place >= 0 && place < places;
        }

        /** Of a set of KEYS, as a DOOR has one. */
        private boolean isOf(int set, int place) {
            int key = at(row, place);
            return key != NONE && (set >> key & 1) == 1;
        }

        boolean someOpens(int door) {
            int openers = house.openersOf(door);
            for (int i = 0; i < places; i++) {
                if (isOf(openers, i)) return true;
            }
            return false;
        }

        private int secondsOfTries(int tries) {
            return tries * house.secondsOf(House.TRY) + (tries - 1) * house.secondsOf(House.GO);
        }

        /** Of a DOOR that some KEY opens; else of all that are tried. */
        int secondsFrom(int door, int place, int way) {
            int openers = house.openersOf(door);
            int tries = 1;
            int now = place;
            while (tries < places && !isOf(openers, now)) {
                now = inRing(way == 0 ? now + 1 : now - 1, places);
                tries++;
            }
            return secondsOfTries(tries);
        }

        /**
         * Of a DOOR that some KEY opens, from all PLACES together, with way 0. With way 1 it is as much: of the
         * PLACES between two such KEYS the first one needs so many tries as the last one with the other way.
         */
        private int secondsFromAll(int door) {
            int openers = house.openersOf(door);
            int tries = 0;
            int together = 0;
            for (int i = 2 * places - 1; i >= 0; i--) {
                tries = isOf(openers, i < places ? i : i - places) ? 1 : tries + 1;
                if (i < places) together += tries;
            }
            return together * house.secondsOf(House.TRY) + (together - places) * house.secondsOf(House.GO);
        }

        int wantedTogether() {
            int sum = 0;
            for (int door = 0; door < house.doors; door++) {
                if (someOpens(door)) sum += house.wantedOf(door);
            }
            return sum;
        }

        int wantedSecondsFrom(int place, int way) {
            int sum = 0;
            for (int door = 0; door < house.doors; door++) {
                int wanted = house.wantedOf(door);
                if (wanted > 0 && someOpens(door)) sum += wanted * secondsFrom(door, place, way);
            }
            return sum;
        }

        int wantedSecondsAnywhere() {
            int sum = 0;
            for (int door = 0; door < house.doors; door++) {
                int wanted = house.wantedOf(door);
                if (wanted > 0 && someOpens(door)) sum += wanted * secondsFromAll(door);
            }
            return sum;
        }

        boolean canWalk() {
            for (int i = 0; i < house.roundMany; i++) {
                if (!someOpens(at(house.roundDoors, i))) return false;
            }
            return house.roundMany > 0;
        }

        int secondsOfRound() {
            int place = 0;
            int sum = 0;
            for (int i = 0; i < house.roundMany; i++) {
                int on = stepsOnToNearest(place, at(house.roundDoors, i));
                sum += Math.min(on, places - on) * house.secondsOf(House.GO) + house.secondsOf(House.TRY);
                place = inRing(place + on, places);
            }
            return sum;
        }

        /** How many PLACES on with way 0 it is. */
        private int stepsOnToNearest(int place, int door) {
            int openers = house.openersOf(door);
            int nearest = 0;
            int least = places;
            for (int on = 0; on < places; on++) {
                int far = Math.min(on, places - on);
                if (far < least && isOf(openers, inRing(place + on, places))) {
                    least = far;
                    nearest = on;
                }
            }
            return nearest;
        }

        private int measured(int by) {
            if (by == BY_START) return wantedSecondsFrom(0, 0);
            if (by == BY_ANYWHERE) return wantedSecondsAnywhere();
            return secondsOfRound();
        }

        /** The first order with the least measure is found; the KEYS of the row are put in all orders. */
        int findOrder(int by) {
            sortUp(row, places);
            int least = NONE;
            boolean goesOn = true;
            for (int i = 0; i < MOST_ORDERS && goesOn; i++) {
                int now = measured(by);
                if (least == NONE || now < least) {
                    least = now;
                    keepFound(row, places);
                }
                goesOn = nextOrder(row, places);
            }
            return least;
        }

        private void keepFound(int[] from, int many) {
            foundMany = many;
            for (int i = 0; i < many; i++) {
                keepAt(found, i, at(from, i));
            }
        }

        int foundAt(int k) {
            return k >= 0 && k < foundMany ? at(found, k) : NONE;
        }

        private static void sortUp(int[] numbers, int many) {
            for (int i = 1; i < many; i++) {
                for (int j = i; j > 0 && at(numbers, j - 1) > at(numbers, j); j--) {
                    swap(numbers, j - 1, j);
                }
            }
        }

        private static void swap(int[] numbers, int i, int j) {
            int one = at(numbers, i);
            keepAt(numbers, i, at(numbers, j));
            keepAt(numbers, j, one);
        }

        /** The order behind this one, number by number; false if this is the last. */
        private static boolean nextOrder(int[] numbers, int many) {
            int i = many - 2;
            while (i >= 0 && at(numbers, i) > at(numbers, i + 1)) i--;
            if (i < 0) return false;
            int j = many - 1;
            while (j > i && at(numbers, j) < at(numbers, i)) j--;
            swap(numbers, i, j);
            int high = many - 1;
            for (int low = i + 1; low < high; low++) {
                swap(numbers, low, high);
                high--;
            }
            return true;
        }

        /** RINGS in a row; the MEAN is meanTop by meanBottom. */
        boolean findRings(int door) {
            int many = loadRings(door);
            if (!hasRingThatOpens(many)) return false;
            boolean isFirst = true;
            boolean goesOn = true;
            long leastTop = 0;
            long leastBottom = 1;
            for (int i = 0; i < MOST_ORDERS && goesOn; i++) {
                measureRings(many);
                if (isFirst || meanTop * leastBottom < leastTop * meanBottom) {
                    isFirst = false;
                    leastTop = meanTop;
                    leastBottom = meanBottom;
                    keepFound(ringRow, many);
                }
                goesOn = nextOrder(ringRow, many);
            }
            meanTop = leastTop;
            meanBottom = leastBottom;
            return true;
        }

        /** Of each RING with KEYS: SECONDS from all PLACES together, or of all tries if none opens. */
        private int loadRings(int door) {
            int many = 0;
            for (int ring = 0; ring < house.rings && ring < MOST_RINGS; ring++) {
                load(ring);
                ringPlaces[ring] = places;
                ringOpens[ring] = someOpens(door);
                ringSeconds[ring] = ringOpens[ring] ? secondsFromAll(door) : secondsOfTries(places);
                if (places > 0) {
                    keepAt(ringRow, many, ring);
                    many++;
                }
            }
            return many;
        }

        private boolean opensAsRing(int ring) {
            return ring >= 0 && ring < MOST_RINGS && ringOpens[ring];
        }

        private boolean hasRingThatOpens(int many) {
            for (int i = 0; i < many; i++) {
                if (opensAsRing(at(ringRow, i))) return true;
            }
            return false;
        }

        private void measureRings(int many) {
            int ahead = 0;
            for (int i = 0; i < many; i++) {
                int ring = at(ringRow, i);
                if (i > 0) ahead += house.secondsOf(House.DROP);
                if (opensAsRing(ring)) {
                    meanBottom = at(ringPlaces, ring);
                    meanTop = ahead * meanBottom + at(ringSeconds, ring);
                    return;
                }
                ahead += at(ringSeconds, ring);
            }
        }

        /** The PLACE for a KEY that is NEW; the MEAN is meanTop by meanBottom. */
        int findPlace(int key, int ring, int door) {
            int best = NONE;
            int least = 0;
            for (int place = 0; place <= house.manyOn(ring); place++) {
                loadWith(key, ring, place);
                if (!someOpens(door)) return NONE;
                int now = secondsFromAll(door);
                if (best == NONE || now < least) {
                    best = place;
                    least = now;
                }
            }
            meanTop = least;
            meanBottom = places;
            return best;
        }

        private void loadWith(int key, int ring, int place) {
            places = 0;
            for (int i = 0; i <= house.manyOn(ring); i++) {
                if (i == place) addToRow(key);
                int other = house.keyOn(ring, i);
                if (other != NONE && !house.isLent(other)) addToRow(other);
            }
        }

        private void addToRow(int key) {
            if (places >= MOST_KEYS) return;
            keepAt(row, places, key);
            places++;
        }
    }

    /** Which KEYS of a RING are alike, and what tells them apart. */
    private static final class Likeness {
        private final House house;
        private final int[] row = new int[MOST_KEYS];
        private int places;

        Likeness(House house) {
            this.house = house;
        }

        void load(int ring) {
            places = house.rowThere(ring, row);
        }

        private int keyAt(int place) {
            return at(row, place);
        }

        /** By the FEATURES of a set, the other KEY met with a way. */
        private boolean areAlike(int key, int other, int set, int way) {
            for (int feature = 0; feature < house.features; feature++) {
                if ((set >> feature & 1) == 0) continue;
                if (house.stepAt(key, feature, 0) != house.stepAt(other, feature, way)) return false;
            }
            return true;
        }

        private int allFeatures() {
            return (1 << house.features) - 1;
        }

        int couplesAlike() {
            int couples = 0;
            for (int i = 0; i < places; i++) {
                couples += alikeAhead(i);
            }
            return couples;
        }

        private int alikeAhead(int place) {
            int many = 0;
            for (int i = 0; i < place; i++) {
                if (areAlike(keyAt(i), keyAt(place), allFeatures(), 0)) many++;
            }
            return many;
        }

        int fewestFeatures(boolean turned) {
            int fewest = NONE;
            for (int set = 0; set <= allFeatures(); set++) {
                boolean isFewer = fewest == NONE || Integer.bitCount(set) < Integer.bitCount(fewest);
                if (isFewer && tellsAllApart(set, turned)) fewest = set;
            }
            return fewest;
        }

        /** One KEY turned is like another one just if the other one turned is like it: one of both is asked. */
        private boolean tellsAllApart(int set, boolean turned) {
            for (int i = 0; i < places; i++) {
                for (int j = 0; j < i; j++) {
                    if (areAlike(keyAt(i), keyAt(j), set, 0)) return false;
                    if (turned && areAlike(keyAt(i), keyAt(j), set, 1)) return false;
                }
            }
            return true;
        }

        int fewestFiled(int sorts) {
            int filedOnes = 0;
            for (int i = 0; i < places; i++) {
                int ahead = alikeAhead(i);
                if (ahead >= sorts) return NONE;
                if (ahead > 0) filedOnes++;
            }
            return filedOnes;
        }

        int leastInRow(boolean turned) {
            for (int k = 1; k <= places; k++) {
                if (tellWhereOneIs(k, turned)) return k;
            }
            return NONE;
        }

        private boolean tellWhereOneIs(int k, boolean turned) {
            for (int i = 0; i < places; i++) {
                for (int j = 0; j < places; j++) {
                    if (i != j && showTheSame(i, j, k, 0)) return false;
                    if (turned && showTheSame(i, j, k, 1)) return false;
                }
            }
            return true;
        }

        /** So many PLACES from one on, as told, and from another one on, with a way. */
        private boolean showTheSame(int place, int other, int k, int way) {
            for (int i = 0; i < k; i++) {
                int one = keyAt(inRing(place + i, places));
                int two = keyAt(inRing(way == 0 ? other + i : other - i, places));
                if (!areAlike(one, two, allFeatures(), way)) return false;
            }
            return true;
        }
    }

    /** The tape, and a TEXT of it that is read TOKEN by TOKEN; its first FAULT stays. */
    private static final class Text {
        static final int MOST = 900;
        static final int END = 0;
        static final int WORD = 1;
        static final int NUMBER = 2;
        static final int SIGN = 3;
        static final int NO_TOKEN = 4;

        private final byte[] tape = new byte[MOST];
        int fed = 0;
        private int length;
        private int kind;
        private int start;
        private int end;
        int number;
        private int sign;
        long letters;
        int fault = NONE;
        int faultPlace = NONE;

        boolean hasRoom(int many) {
            return fed + many <= MOST;
        }

        void append(int four) {
            for (int shift = 24; shift >= 0; shift -= 8) {
                if (fed >= 0 && fed < MOST) {
                    tape[fed] = (byte) (four >> shift);
                    fed++;
                }
            }
        }

        /** The first n bytes are the TEXT; the tape is empty then. */
        void begin(int n) {
            length = n;
            fed = 0;
            end = 0;
            fault = 0;
            faultPlace = NONE;
            advance();
        }

        boolean goesOn() {
            return fault == 0 && kind != END;
        }

        private int byteAt(int i) {
            return i >= 0 && i < length && i < MOST ? tape[i] & 255 : NONE;
        }

        private static boolean isBlank(int c) {
            return c == 10 || c == 32;
        }

        private static boolean isLetter(int c) {
            return c >= 'a' && c <= 'z';
        }

        private static boolean isDigit(int c) {
            return c >= '0' && c <= '9';
        }

        private static boolean isSignOf(int c) {
            return c == ';' || c == '<' || c == '>' || c == '=';
        }

        void advance() {
            start = end;
            while (start < length && isBlank(byteAt(start))) start++;
            end = start;
            int c = byteAt(start);
            if (c == NONE) {
                kind = END;
            } else if (isLetter(c)) {
                kind = WORD;
                readLetters();
            } else if (isDigit(c)) {
                readDigits();
            } else {
                kind = isSignOf(c) ? SIGN : NO_TOKEN;
                sign = c;
                end = start + 1;
            }
        }

        /** A NAME is kept as a number, five bits a letter; 0 is a WORD that is too long for one. */
        private void readLetters() {
            letters = 0;
            while (end < length && isLetter(byteAt(end))) {
                if (end - start < 8) letters = letters * 32 + byteAt(end) - 'a' + 1;
                end++;
            }
            if (end - start > 8) letters = 0;
        }

        private void readDigits() {
            number = 0;
            while (end < length && isDigit(byteAt(end))) {
                if (end - start < 4) number = number * 10 + byteAt(end) - '0';
                end++;
            }
            kind = end - start > 4 ? NO_TOKEN : NUMBER;
        }

        boolean is(String word) {
            if (kind != WORD || end - start != word.length()) return false;
            for (int i = 0; i < word.length(); i++) {
                if (byteAt(start + i) != word.charAt(i)) return false;
            }
            return true;
        }

        boolean isSign(char c) {
            return kind == SIGN && sign == c;
        }

        boolean isNumber() {
            return kind == NUMBER;
        }

        boolean isName() {
            if (kind != WORD || letters == 0) return false;
            return !(is("feature") || is("steps") || is("turned") || is("feels") || is("key") || is("ring")
                    || is("door") || is("wanted") || is("by") || is("seconds") || is("feel") || is("try")
                    || is("go") || is("drop") || is("round"));
        }

        /** What is no TOKEN is that ahead of all else that may be wrong with it. */
        boolean refuse(int why) {
            if (fault == 0) {
                fault = kind == NO_TOKEN ? 1 : why;
                faultPlace = start;
            }
            return false;
        }

        boolean takeWord(String word) {
            if (!is(word)) return refuse(2);
            advance();
            return true;
        }

        boolean takeSign(char c) {
            if (!isSign(c)) return refuse(2);
            advance();
            return true;
        }

        /** A NUMBER from least to most; NONE, and a FAULT, if there is none. */
        int takeNumber(int least, int most) {
            if (!isNumber()) {
                refuse(2);
                return NONE;
            }
            if (number < least || number > most) {
                refuse(4);
                return NONE;
            }
            int taken = number;
            advance();
            return taken;
        }

        int takeCompare() {
            if (!isSign('<') && !isSign('>') && !isSign('=')) {
                refuse(2);
                return NONE;
            }
            int taken = sign;
            advance();
            return taken;
        }
    }

    /** Reads a HOUSE's TEXT. */
    private static final class HouseReader {
        private final Text text;
        final House fresh = new House();
        private final long[] featureNames = new long[MOST_FEATURES];
        private final long[] keyNames = new long[MOST_KEYS];
        private final long[] ringNames = new long[MOST_RINGS];
        private final long[] doorNames = new long[MOST_DOORS];
        private int keysOnRings;
        private int feelsTold;
        private boolean secondsTold;
        private boolean turnedTold;

        HouseReader(Text text) {
            this.text = text;
        }

        boolean readAll() {
            fresh.clear();
            keysOnRings = 0;
            feelsTold = 0;
            secondsTold = false;
            turnedTold = false;
            for (int i = 0; i < Text.MOST && text.goesOn(); i++) {
                readPart();
            }
            return text.fault == 0;
        }

        private boolean readPart() {
            if (text.is("feature")) return readFeature();
            if (text.is("feels")) return readFeels();
            if (text.is("key")) return readKey();
            if (text.is("ring")) return readRing();
            if (text.is("door")) return readDoor();
            if (text.is("seconds")) return readSeconds();
            if (text.is("turned")) return readTurned();
            if (text.is("round")) return readRound();
            return text.refuse(2);
        }

        private static int placeOf(long name, long[] names, int many) {
            for (int i = 0; i < many; i++) {
                if (longAt(names, i) == name) return i;
            }
            return NONE;
        }

        private boolean isTaken(long name) {
            return placeOf(name, featureNames, fresh.features) != NONE || placeOf(name, keyNames, fresh.keys) != NONE
                    || placeOf(name, ringNames, fresh.rings) != NONE || placeOf(name, doorNames, fresh.doors) != NONE;
        }

        /** A NAME that nothing has; 0, and a FAULT, if there is none. */
        private long takeNewName() {
            long name = text.letters;
            if (!text.isName()) {
                text.refuse(2);
                return 0;
            }
            if (isTaken(name)) {
                text.refuse(3);
                return 0;
            }
            text.advance();
            return name;
        }

        /** The number of the thing that is named here, which stays at hand; NONE, and a FAULT, if it is none. */
        private int thingHere(long[] names, int many) {
            if (!text.isName()) {
                text.refuse(2);
                return NONE;
            }
            int thing = placeOf(text.letters, names, many);
            if (thing == NONE) text.refuse(3);
            return thing;
        }

        private boolean readFeature() {
            if (fresh.features >= MOST_FEATURES) return text.refuse(6);
            if (fresh.keys > 0) return text.refuse(7);
            text.advance();
            long name = takeNewName();
            if (name == 0 || !text.takeWord("steps")) return false;
            int steps = text.takeNumber(2, MOST_STEPS);
            if (steps == NONE) return false;
            boolean isTurned = text.is("turned");
            if (isTurned) text.advance();
            keepLongAt(featureNames, fresh.features, name);
            fresh.addFeature(name, steps, isTurned);
            return text.takeSign(';');
        }

        private boolean readFeels() {
            text.advance();
            int feature = thingHere(featureNames, fresh.features);
            if (feature == NONE) return false;
            if ((feelsTold >> feature & 1) == 1) return text.refuse(5);
            feelsTold |= 1 << feature;
            text.advance();
            if (!text.isNumber()) return text.refuse(2);
            int steps = fresh.stepsOf(feature);
            int told = 0;
            int together = 0;
            for (; told <= MOST_STEPS * MOST_STEPS && text.isNumber(); told++) {
                if (text.number > SIXTEEN) return text.refuse(4);
                if (steps <= 0 || told >= steps * steps) return text.refuse(8);
                int felt = told % steps;
                together = felt == 0 ? text.number : together + text.number;
                if (felt == steps - 1 && together != SIXTEEN) return text.refuse(9);
                fresh.setFeltAs(feature, told / steps, felt, text.number);
                text.advance();
            }
            if (text.isSign(';') && told < steps * steps) return text.refuse(8);
            return text.takeSign(';');
        }

        private boolean readKey() {
            if (fresh.keys >= MOST_KEYS) return text.refuse(6);
            text.advance();
            long name = takeNewName();
            if (name == 0) return false;
            int feature = 0;
            for (; feature <= MOST_FEATURES && text.isNumber(); feature++) {
                if (feature >= fresh.features) return text.refuse(8);
                int step = text.takeNumber(0, fresh.stepsOf(feature) - 1);
                if (step == NONE) return false;
                fresh.setStep(fresh.keys, feature, step);
            }
            if (text.isSign(';') && feature < fresh.features) return text.refuse(8);
            keepLongAt(keyNames, fresh.keys, name);
            fresh.keys++;
            return text.takeSign(';');
        }

        private boolean readRing() {
            if (fresh.rings >= MOST_RINGS) return text.refuse(6);
            text.advance();
            long name = takeNewName();
            if (name == 0) return false;
            int ring = fresh.rings;
            keepLongAt(ringNames, ring, name);
            fresh.addRing();
            for (int i = 0; i <= MOST_KEYS && !text.isSign(';'); i++) {
                int key = thingHere(keyNames, fresh.keys);
                if (key == NONE) return false;
                if ((keysOnRings >> key & 1) == 1) return text.refuse(5);
                keysOnRings |= 1 << key;
                fresh.putOn(key, ring, i);
                text.advance();
            }
            return text.takeSign(';');
        }

        private boolean readDoor() {
            if (fresh.doors >= MOST_DOORS) return text.refuse(6);
            text.advance();
            long name = takeNewName();
            if (name == 0 || !text.takeWord("wanted")) return false;
            int often = text.takeNumber(0, 99);
            if (often == NONE || !text.takeWord("by")) return false;
            int door = fresh.doors;
            keepLongAt(doorNames, door, name);
            fresh.addDoor(often);
            for (int i = 0; i <= MOST_KEYS && (i == 0 || !text.isSign(';')); i++) {
                int key = thingHere(keyNames, fresh.keys);
                if (key == NONE) return false;
                if (fresh.unlocks(key, door)) return text.refuse(5);
                fresh.addOpener(door, key);
                text.advance();
            }
            return text.takeSign(';');
        }

        private boolean readSeconds() {
            if (secondsTold) return text.refuse(5);
            secondsTold = true;
            text.advance();
            for (int act = House.FEEL; act <= House.DROP; act++) {
                if (!text.takeWord(wordOf(act))) return false;
                int many = text.takeNumber(1, 99);
                if (many == NONE) return false;
                fresh.setSeconds(act, many);
            }
            return text.takeSign(';');
        }

        private static String wordOf(int act) {
            switch (act) {
                case House.FEEL: return "feel";
                case House.TRY: return "try";
                case House.GO: return "go";
                default: return "drop";
            }
        }

        private boolean readTurned() {
            if (turnedTold) return text.refuse(5);
            turnedTold = true;
            text.advance();
            int many = text.takeNumber(0, SIXTEEN);
            if (many == NONE) return false;
            fresh.turned = many;
            return text.takeSign(';');
        }

        private boolean readRound() {
            if (fresh.roundMany > 0) return text.refuse(5);
            text.advance();
            for (int i = 0; i <= MOST_IN_ROUND && (i == 0 || !text.isSign(';')); i++) {
                int door = thingHere(doorNames, fresh.doors);
                if (door == NONE) return false;
                if (i >= MOST_IN_ROUND) return text.refuse(6);
                fresh.addToRound(door);
                text.advance();
            }
            return text.takeSign(';');
        }
    }

    /** A RULE: its STEPS and ends as they stand; a partner is the end of a when, loop, or what an end ends. */
    private static final class Rule {
        static final int FEEL = 0;
        static final int TRY = 1;
        static final int GO = 2;
        static final int TURN = 3;
        static final int DROP = 4;
        static final int STOP = 5;
        static final int WHEN_FELT = 6;
        static final int WHEN_SURE = 7;
        static final int WHEN_TRIED = 8;
        static final int LOOP = 9;
        static final int BLOCK_END = 10;
        static final int MOST_STEPS_TOLD = 30;
        static final int MOST_LINES = 2 * MOST_STEPS_TOLD;

        int lines = 0;
        int steps = 0;
        boolean asksSure = false;
        private final int[] kinds = new int[MOST_LINES];
        private final int[] features = new int[MOST_LINES];
        private final int[] compares = new int[MOST_LINES];
        private final int[] numbers = new int[MOST_LINES];
        private final int[] partners = new int[MOST_LINES];

        void clear() {
            lines = 0;
            steps = 0;
            asksSure = false;
        }

        static void copy(Rule from, Rule to) {
            if (from == null || to == null) return;
            to.lines = from.lines;
            to.steps = from.steps;
            to.asksSure = from.asksSure;
            System.arraycopy(from.kinds, 0, to.kinds, 0, MOST_LINES);
            System.arraycopy(from.features, 0, to.features, 0, MOST_LINES);
            System.arraycopy(from.compares, 0, to.compares, 0, MOST_LINES);
            System.arraycopy(from.numbers, 0, to.numbers, 0, MOST_LINES);
            System.arraycopy(from.partners, 0, to.partners, 0, MOST_LINES);
        }

        int kindAt(int line) {
            return line >= 0 && line < lines ? at(kinds, line) : NONE;
        }

        int featureAt(int line) {
            return at(features, line);
        }

        int compareAt(int line) {
            return at(compares, line);
        }

        int numberAt(int line) {
            return at(numbers, line);
        }

        int partnerAt(int line) {
            return at(partners, line);
        }

        void add(int kind, int feature, int compare, int number) {
            keepAt(kinds, lines, kind);
            keepAt(features, lines, feature);
            keepAt(compares, lines, compare);
            keepAt(numbers, lines, number);
            lines++;
            if (kind != BLOCK_END) steps++;
            if (kind == WHEN_SURE) asksSure = true;
        }

        void pair(int begin, int endOfIt) {
            keepAt(partners, begin, endOfIt);
            keepAt(partners, endOfIt, begin);
        }
    }

    /** Reads a RULE's TEXT. */
    private static final class RuleReader {
        static final int DEEPEST = 3;

        private final Text text;
        private final House house;
        final Rule fresh = new Rule();
        private final int[] begun = new int[DEEPEST];
        private int depth;

        RuleReader(Text text, House house) {
            this.text = text;
            this.house = house;
        }

        boolean readAll() {
            fresh.clear();
            depth = 0;
            for (int i = 0; i < MOST_RULE_BYTES && text.goesOn(); i++) {
                readStep();
            }
            if (text.fault == 0 && depth > 0) return text.refuse(2);
            return text.fault == 0;
        }

        private boolean readStep() {
            if (text.is("end")) return readEnd();
            boolean isLoop = text.is("loop");
            boolean isBlock = isLoop || text.is("when");
            int kind = plainKind();
            if (!isBlock && kind == NONE) return text.refuse(2);
            if (fresh.steps >= Rule.MOST_STEPS_TOLD) return text.refuse(6);
            if (isBlock && depth >= DEEPEST) return text.refuse(7);
            text.advance();
            if (isLoop) return readLoop() && beginBlock();
            return isBlock ? readWhen() && beginBlock() : readPlain(kind);
        }

        private boolean readPlain(int kind) {
            int feature = NONE;
            if (kind == Rule.FEEL) {
                feature = takeFeature();
                if (feature == NONE) return false;
            }
            fresh.add(kind, feature, 0, 0);
            return text.takeSign(';');
        }

        private boolean beginBlock() {
            keepAt(begun, depth, fresh.lines - 1);
            depth++;
            return text.takeSign(';');
        }

        private int plainKind() {
            if (text.is("feel")) return Rule.FEEL;
            if (text.is("try")) return Rule.TRY;
            if (text.is("go")) return Rule.GO;
            if (text.is("turn")) return Rule.TURN;
            if (text.is("drop")) return Rule.DROP;
            return text.is("stop") ? Rule.STOP : NONE;
        }

        private boolean readLoop() {
            int times = text.takeNumber(1, 9);
            if (times == NONE) return false;
            fresh.add(Rule.LOOP, NONE, 0, times);
            return true;
        }

        private boolean readWhen() {
            if (text.is("felt")) {
                text.advance();
                int feature = takeFeature();
                if (feature == NONE) return false;
                int compare = text.takeCompare();
                if (compare == NONE) return false;
                int step = text.takeNumber(0, MOST_STEPS - 1);
                if (step == NONE) return false;
                fresh.add(Rule.WHEN_FELT, feature, compare, step);
                return true;
            }
            if (text.is("tried")) {
                text.advance();
                fresh.add(Rule.WHEN_TRIED, NONE, 0, 0);
                return true;
            }
            if (!text.takeWord("sure")) return false;
            int many = text.takeNumber(0, SIXTEEN);
            if (many == NONE) return false;
            fresh.add(Rule.WHEN_SURE, NONE, 0, many);
            return true;
        }

        private int takeFeature() {
            if (!text.isName()) {
                text.refuse(2);
                return NONE;
            }
            int feature = house.featureNamed(text.letters);
            if (feature == NONE) {
                text.refuse(3);
            } else {
                text.advance();
            }
            return feature;
        }

        private boolean readEnd() {
            if (depth <= 0) return text.refuse(2);
            text.advance();
            depth--;
            fresh.add(Rule.BLOCK_END, NONE, 0, 0);
            fresh.pair(at(begun, depth), fresh.lines - 1);
            return text.takeSign(';');
        }
    }

    /**
     * A RULE as it is PLAYED, and what is kept of the game played latest. Nothing but sure asks for THOUGHT: a RULE
     * without it learns nothing.
     */
    private static final class Game {
        static final int MOST_STEPS_DONE = 200;
        /** Far above the ends of 200 loops of nine rounds each. */
        static final int MOST_LINES_COME_TO = 10000;

        private final House house;
        private final Rule rule;
        private final Thought thought;
        private final int[] rounds = new int[Rule.MOST_LINES];
        private final int[] feltHere = new int[MOST_FEATURES];
        private boolean triedHere;
        private int draws;
        private int door;
        private int place;
        private int way;
        private int line;
        private boolean isOver;
        boolean open;
        long seconds;
        private int steps;
        private int feelings;
        private int tries;
        private boolean cutOff;
        private final int[] kept = new int[7];
        boolean isKept = false;

        Game(House house, Rule rule) {
            this.house = house;
            this.rule = rule;
            this.thought = new Thought(house);
        }

        void run(int ring, int forDoor, int seed) {
            door = forDoor;
            draws = seed;
            line = 0;
            isOver = false;
            open = false;
            seconds = 0;
            steps = 0;
            feelings = 0;
            tries = 0;
            cutOff = false;
            thought.begin(ring);
            dropped();
            for (int i = 0; i < MOST_LINES_COME_TO && !isOver && line < rule.lines; i++) {
                int kind = rule.kindAt(line);
                if (kind == Rule.BLOCK_END) {
                    playEnd();
                } else if (steps >= MOST_STEPS_DONE) {
                    cutOff = true;
                    isOver = true;
                } else {
                    steps++;
                    playStep(kind);
                }
            }
        }

        void keep() {
            isKept = true;
            keepAt(kept, 0, (int) seconds);
            keepAt(kept, 1, steps);
            keepAt(kept, 2, feelings);
            keepAt(kept, 3, tries);
            keepAt(kept, 4, place);
            keepAt(kept, 5, way);
            keepAt(kept, 6, cutOff ? 1 : 0);
        }

        boolean hasKept(int what) {
            return what >= 0 && what < kept.length;
        }

        int keptOf(int what) {
            return at(kept, what);
        }

        private int drawBy(int n) {
            draws = (draws * 2749 + 15013) % 65536;
            return n > 0 ? draws / 8 % n : 0;
        }

        private void dropped() {
            place = drawBy(thought.places);
            way = drawBy(SIXTEEN) < house.turned ? 1 : 0;
            thought.beginAgain();
            forgetHere();
        }

        private void forgetHere() {
            Arrays.fill(feltHere, NONE);
            triedHere = false;
        }

        private void playEnd() {
            int begin = rule.partnerAt(line);
            int left = rule.kindAt(begin) == Rule.LOOP ? at(rounds, begin) - 1 : 0;
            keepAt(rounds, begin, left);
            line = left > 0 ? begin + 1 : line + 1;
        }

        private void playStep(int kind) {
            int now = line;
            line = now + 1;
            switch (kind) {
                case Rule.FEEL:
                    playFeel(rule.featureAt(now));
                    break;
                case Rule.TRY:
                    playTry();
                    break;
                case Rule.GO:
                    playGo();
                    break;
                case Rule.TURN:
                    way = 1 - way;
                    thought.swapWays();
                    forgetHere();
                    break;
                case Rule.DROP:
                    seconds += house.secondsOf(House.DROP);
                    dropped();
                    break;
                case Rule.LOOP:
                    keepAt(rounds, now, rule.numberAt(now));
                    break;
                case Rule.STOP:
                    isOver = true;
                    break;
                default:
                    if (!isSo(kind, now)) line = rule.partnerAt(now) + 1;
                    break;
            }
        }

        /** What can't be, by THOUGHT rounded down, changes nothing in it. */
        private void playFeel(int feature) {
            if (!house.hasFeature(feature)) return;
            seconds += house.secondsOf(House.FEEL);
            feelings++;
            int draw = drawBy(SIXTEEN);
            int felt = 0;
            int upTo = 0;
            for (int i = 0; i < house.stepsOf(feature) && upTo <= draw; i++) {
                felt = i;
                upTo += house.feltAsAt(thought.keyAt(place), feature, way, i);
            }
            keepAt(feltHere, feature, felt);
            if (rule.asksSure) thought.learnFelt(feature, felt);
        }

        private void playTry() {
            seconds += house.secondsOf(House.TRY);
            tries++;
            triedHere = true;
            if (house.unlocks(thought.keyAt(place), door)) {
                open = true;
                isOver = true;
            } else if (rule.asksSure) {
                thought.learnTried(door, false);
            }
        }

        private void playGo() {
            seconds += house.secondsOf(House.GO);
            place = inRing(way == 0 ? place + 1 : place - 1, thought.places);
            thought.moveOn();
            forgetHere();
        }

        private boolean isSo(int kind, int now) {
            if (kind == Rule.WHEN_TRIED) return triedHere;
            if (kind == Rule.WHEN_SURE) {
                return thought.partsThatOpen(door) * SIXTEEN >= (long) rule.numberAt(now) * ALL_PARTS;
            }
            int feature = rule.featureAt(now);
            if (!house.hasFeature(feature)) return false;
            int felt = at(feltHere, feature);
            if (felt == NONE) return false;
            int step = rule.numberAt(now);
            if (rule.compareAt(now) == '<') return felt < step;
            return rule.compareAt(now) == '>' ? felt > step : felt == step;
        }
    }
}
