/** Promises 43 to 49: what tells keys apart, what is missing, what is new. */
public final class ApartTest {
    private static final Due due = new Due();
    private static final String KEYS = "feature size steps 3 turned;feature nick steps 2;"
            + "key a 0 0;key b 2 0;key c 1 1;key d 1 1;key e 0 1;ring r a b c d e;ring q;";

    public static void main(String[] args) {
        alike();
        alikeOfAll();
        apart();
        eachSet();
        apartTurned();
        filed();
        eachSort();
        known();
        knownRound();
        knownTurned();
        missing();
        missingOfAll();
        missingOfOneThatLiesAbout();
        soon();
        soonOfAll();
        theOnlyOne();
        newly();
        newlyRound();
        due.end("ApartTest");
    }

    private static DarkRing fresh(String house) {
        DarkRing x = new DarkRing();
        Due.house(x, house);
        return x;
    }

    /** Promise 43. */
    private static void alike() {
        DarkRing x = fresh(KEYS);
        due.is("alike(0)", x, x.alike(0), 1, 0);
        due.is("alike(1)", x, x.alike(1), 0, 0);
        due.is("alike(2)", x, x.alike(2), -1, 2);
        due.is("alike(-1)", x, x.alike(-1), -1, 2);
        x.lend(2, true);
        due.is("a lent one is like none", x, x.alike(0), 0, 0);
        x = fresh("key a;key b;key c;key d;ring r a b c d;");
        due.is("without features all are alike", x, x.alike(0), 6, 0);
    }

    /** Promise 43: of n KEYS that are alike n by n less 1, by 2; of another RING's none; of none, one, two. */
    private static void alikeOfAll() {
        String house = "";
        for (int n = 1; n <= 10; n++) {
            house += "key " + (char) ('a' + n) + ";";
            String on = "";
            for (int i = 1; i <= n; i++) on += " " + (char) ('a' + i);
            DarkRing x = fresh(house + "ring r" + on + ";ring q;");
            due.is("all alike", x, x.alike(0), n * (n - 1) / 2, 0);
            due.is("no key", x, x.alike(1), 0, 0);
        }
        DarkRing x = fresh("feature f steps 2;feature g steps 2;key a 0 1;key b 0 1;key c 1 1;key d 0 0;key e 0 1;"
                + "ring r a c d e;ring q b;");
        due.is("one couple, the other one on another ring", x, x.alike(0), 1, 0);
        due.is("one key alone", x, x.alike(1), 0, 0);
        x.off(1);
        x.put(1, 0, 4);
        due.is("three couples", x, x.alike(0), 3, 0);
        x.off(4);
        due.is("one lies about", x, x.alike(0), 1, 0);
    }

    /** Promise 44: each set of three FEATURES, from none to all. */
    private static void eachSet() {
        String three = "feature f steps 2;feature g steps 2;feature h steps 2;";
        String[] keys = {"key a 0 0 0;", "key a 0 0 0;key b 1 0 0;", "key a 0 0 0;key b 0 1 0;",
            "key a 0 0 0;key b 1 0 0;key c 0 1 0;", "key a 0 0 0;key b 0 0 1;", "key a 0 0 0;key b 1 0 0;key c 0 0 1;",
            "key a 0 0 0;key b 0 1 0;key c 0 0 1;", "key a 0 0 0;key b 1 0 0;key c 0 1 0;key d 0 0 1;"};
        for (int set = 0; set < 8; set++) {
            String on = "";
            for (int k = 0; k < keys[set].length() / 12; k++) on += " " + (char) ('a' + k);
            DarkRing x = fresh(three + keys[set] + "ring r" + on + ";");
            due.is("set " + set, x, x.apart(0, false), set, 0);
            due.is("set " + set + ", nothing is turned", x, x.apart(0, true), set, 0);
        }
        // Each FEATURE alone tells them apart: of several sets of as few the least.
        DarkRing x = fresh(three + "key a 0 0 0;key b 1 1 1;ring r a b;");
        due.is("the first of three", x, x.apart(0, false), 1, 0);
        x = fresh(three + "key a 0 0 0;key b 0 1 1;ring r a b;");
        due.is("the first of two", x, x.apart(0, false), 2, 0);
        // One that is more in number is less by its bits: 4 alone is fewer than 3.
        x = fresh("feature f steps 2;feature g steps 2;feature h steps 4;key a 0 0 0;key b 0 1 1;key c 1 0 2;key d 1 1 3;"
                + "ring r a b c d;");
        due.is("one is fewer than two", x, x.apart(0, false), 4, 0);
        x = fresh("key a;key b;ring r a b;ring q;");
        due.is("no feature", x, x.apart(0, false), -1, 8);
        due.is("no key", x, x.apart(1, false), 0, 0);
        x.off(1);
        due.is("one key", x, x.apart(0, false), 0, 0);
        due.is("one key, turned, too", x, x.apart(0, true), 0, 0);
    }

    /** Promise 44: a turned FEATURE's middle STEP stays, the first becomes the last; a KEY is not asked of itself. */
    private static void apartTurned() {
        String three = "feature f steps 3 turned;feature g steps 2;";
        DarkRing x = fresh(three + "key a 1 0;ring r a;");
        due.is("like itself turned", x, x.apart(0, true), 0, 0);
        x = fresh(three + "key a 0 0;key b 2 0;ring r a b;");
        due.is("the first and the last", x, x.apart(0, false), 1, 0);
        due.is("one turned is like the other", x, x.apart(0, true), -1, 8);
        x = fresh(three + "key a 0 0;key b 1 0;ring r a b;");
        due.is("the first and the middle one", x, x.apart(0, true), 1, 0);
        x = fresh(three + "key a 0 0;key b 2 1;ring r a b;");
        due.is("by f as it is", x, x.apart(0, false), 1, 0);
        due.is("by g, turned, too", x, x.apart(0, true), 2, 0);
        x = fresh(three + "key a 0 0;key b 2 1;key c 1 1;ring r a b c;");
        due.is("as they are", x, x.apart(0, false), 1, 0);
        due.is("by both, turned, too", x, x.apart(0, true), 3, 0);
        x = fresh("feature f steps 3;feature g steps 2;key a 0 0;key b 2 0;ring r a b;");
        due.is("none is a turned one", x, x.apart(0, true), 1, 0);
    }

    /** Promise 44. */
    private static void apart() {
        DarkRing x = fresh(KEYS);
        due.is("not by all of them", x, x.apart(0, false), -1, 8);
        due.is("apart(2, false)", x, x.apart(2, false), -1, 2);
        due.is("apart(-1, true)", x, x.apart(-1, true), -1, 2);
        due.is("an empty ring", x, x.apart(1, true), 0, 0);
        x.lend(3, true);
        due.is("by both", x, x.apart(0, false), 3, 0);
        due.is("a turned is like b", x, x.apart(0, true), -1, 8);
        x.lend(1, true);
        due.is("by both, turned, too", x, x.apart(0, true), 3, 0);
        x.lend(4, true);
        due.is("by the first", x, x.apart(0, false), 1, 0);
        due.is("by the first, turned, too", x, x.apart(0, true), 1, 0);
        x.lend(2, true);
        due.is("one key alone", x, x.apart(0, true), 0, 0);
        x = fresh("feature f steps 2;feature g steps 2;feature h steps 3;key a 0 0 0;key b 0 1 1;key c 1 0 2;"
                + "ring r a b c;");
        due.is("one of them", x, x.apart(0, false), 4, 0);
        x = fresh("feature f steps 2;feature g steps 2;feature h steps 2;key a 0 0 0;key b 0 1 1;key c 1 0 0;"
                + "ring r a b c;");
        due.is("of two sets the least", x, x.apart(0, false), 3, 0);
        x = fresh("feature f steps 2 turned;feature g steps 2;key a 0 0;key b 1 1;ring r a b;");
        due.is("by the first", x, x.apart(0, false), 1, 0);
        due.is("turned, too, by the second", x, x.apart(0, true), 2, 0);
    }

    /** Promise 45. */
    private static void filed() {
        DarkRing x = fresh(KEYS);
        due.is("filed(0, 2)", x, x.filed(0, 2), 1, 0);
        due.is("filed(0, 9)", x, x.filed(0, 9), 1, 0);
        due.is("filed(0, 1)", x, x.filed(0, 1), -1, 5);
        due.is("filed(0, 10)", x, x.filed(0, 10), -1, 5);
        due.is("filed(1, 2)", x, x.filed(1, 2), 0, 0);
        due.is("filed(2, 1)", x, x.filed(2, 1), -1, 2);
        x = fresh("feature f steps 2;key a 0;key b 1;key c 0;key d 1;key e 0;ring r a b c d e;");
        due.is("three alike, two sorts", x, x.filed(0, 2), -1, 9);
        due.is("three alike, three sorts", x, x.filed(0, 3), 3, 0);
        x.lend(0, true);
        due.is("two and two alike", x, x.filed(0, 2), 2, 0);
        x = fresh("key a;key b;key c;key d;key e;key f;key g;key h;key i;key j;ring r a b c d e f g h i j;");
        due.is("ten alike", x, x.filed(0, 9), -1, 9);
        x.off(9);
        due.is("nine alike", x, x.filed(0, 9), 8, 0);
    }

    /** Promise 45: 2 to 9 sorts, and as many alike, one more, one less. */
    private static void eachSort() {
        String keys = "";
        String on = "";
        for (int n = 1; n <= 10; n++) {
            keys += "key " + (char) ('a' + n) + ";";
            on += " " + (char) ('a' + n);
            DarkRing x = fresh(keys + "ring r" + on + ";");
            for (int sorts = 2; sorts <= 9; sorts++) {
                due.is(n + " alike, sorts " + sorts, x, x.filed(0, sorts), n > sorts ? -1 : n - 1, n > sorts ? 9 : 0);
            }
            due.is("sorts 1", x, x.filed(0, 1), -1, 5);
            due.is("sorts 10", x, x.filed(0, 10), -1, 5);
            due.is("2 ahead of 5", x, x.filed(1, 1), -1, 2);
        }
    }

    /** Promise 46: the ring goes on from its end to its beginning; told by 1 to n PLACES in a row. */
    private static void knownRound() {
        DarkRing x = fresh("feature f steps 2;key a 0;key b 1;ring r a;ring q b;");
        due.is("one place", x, x.known(0, false), 1, 0);
        due.is("one place, turned, too", x, x.known(0, true), -1, 8);
        x = fresh("feature f steps 2;key a 0;key b 1;ring r a b;");
        due.is("two places", x, x.known(0, false), 1, 0);
        due.is("two places, turned, too", x, x.known(0, true), -1, 8);
        x.lend(0, true);
        x.lend(1, true);
        due.is("no place", x, x.known(0, false), -1, 8);
        due.is("no place, turned, too", x, x.known(0, true), -1, 8);
        // One that is another and the rest alike: n less 1.
        String keys = "feature size steps 2;key a 1;";
        String on = " a";
        for (int n = 2; n <= 10; n++) {
            keys += "key " + (char) ('a' + n) + " 0;";
            on += " " + (char) ('a' + n);
            x = fresh(keys + "ring r" + on + ";");
            due.is("one of " + n, x, x.known(0, false), n - 1, 0);
            due.is("one of " + n + ", turned, too", x, x.known(0, true), -1, 8);
            x.lend(0, true);
            due.is("none of " + (n - 1), x, x.known(0, false), n == 2 ? 1 : -1, n == 2 ? 0 : 8);
        }
        x = fresh("feature f steps 2;key a 0;key b 0;key c 1;key d 1;ring r a b c d;");
        due.is("two and two", x, x.known(0, false), 2, 0);
        due.is("two and two, the other way round, too", x, x.known(0, true), -1, 8);
    }

    /** Promise 46: TURNED, those that are met the other way round from any PLACE on, from the same one, too. */
    private static void knownTurned() {
        DarkRing x = fresh("feature f steps 3;key a 0;key b 1;key c 2;ring r a b c;");
        due.is("three that differ", x, x.known(0, false), 1, 0);
        due.is("two in a row tell which way", x, x.known(0, true), 2, 0);
        x = fresh("feature f steps 4 turned;key a 0;key b 1;key c 0;ring r a b;");
        due.is("none is like one turned", x, x.known(0, true), 1, 0);
        x.put(2, 0, 2);
        due.is("two alike", x, x.known(0, false), 2, 0);
        due.is("two alike, none like one turned", x, x.known(0, true), 2, 0);
        x = fresh("feature f steps 3 turned;key a 0;key b 1;ring r a b;");
        due.is("the middle one is like itself turned", x, x.known(0, false), 1, 0);
        due.is("the middle one is like itself turned", x, x.known(0, true), 2, 0);
    }

    /** Promise 46. */
    private static void known() {
        String plain = "feature f steps 2;key a 0;key b 0;key c 1;key d 1;ring r a b c;ring q;";
        DarkRing x = fresh(plain);
        due.is("known(0, false)", x, x.known(0, false), 2, 0);
        due.is("met the other way round, too", x, x.known(0, true), -1, 8);
        due.is("known(1, false)", x, x.known(1, false), -1, 8);
        due.is("known(2, false)", x, x.known(2, false), -1, 2);
        due.is("known(-1, false)", x, x.known(-1, false), -1, 2);
        x = fresh(plain.replace("steps 2", "steps 2 turned"));
        due.is("known(0, false), turned", x, x.known(0, false), 2, 0);
        due.is("known(0, true), turned", x, x.known(0, true), 3, 0);
        x.lend(1, true);
        due.is("two are there", x, x.known(0, false), 1, 0);
        // As told 0 1 and 1 0; the other way round 0 1 turned, 1 0, and 1 0 turned, 0 1: the same.
        due.is("two are there, turned", x, x.known(0, true), -1, 8);
        x.lend(2, true);
        due.is("one is there", x, x.known(0, false), 1, 0);
        due.is("one is there, turned", x, x.known(0, true), 1, 0);
        x = fresh("feature f steps 3 turned;key a 1;ring r a;");
        due.is("one that is like itself turned", x, x.known(0, true), -1, 8);
        x = fresh("feature f steps 2;key a 0;key b 1;key c 0;key d 1;ring r a b c d;");
        due.is("not even n", x, x.known(0, false), -1, 8);
        x = fresh("feature f steps 2;key a 0;key b 0;key c 0;key d 1;ring r a b c d;");
        due.is("three of four", x, x.known(0, false), 3, 0);
    }

    private static final String DOORS = "key a;key b;key c;key d;key e;key f;ring r a b c d;ring q e;"
            + "door x wanted 1 by a e;door y wanted 1 by b c;door z wanted 1 by f;";

    /** Promise 47. */
    private static void missing() {
        DarkRing x = fresh(DOORS);
        long[][] due4 = {{1, 4}, {4, 13}, {2, 5}, {4, 7}, {1, 1}};
        for (int t = 0; t <= 4; t++) {
            due.is("missing(0, 0, 4, " + t + ")", x, x.missing(0, 0, 4, t), true, 0);
            due.fraction("missing(0, 0, 4, " + t + ")", x, due4[t][0], due4[t][1]);
        }
        due.is("missing(0, 0, 16, 0)", x, x.missing(0, 0, 16, 0), true, 0);
        due.fraction("surely lent", x, 1, 1);
        due.is("missing(0, 0, 0, 3)", x, x.missing(0, 0, 0, 3), true, 0);
        due.fraction("surely not lent", x, 0, 1);
        due.is("missing(0, 0, 0, 4)", x, x.missing(0, 0, 0, 4), false, 9);
        due.is("t above n", x, x.missing(0, 0, 4, 5), false, 5);
        due.is("t below 0", x, x.missing(0, 0, 4, -1), false, 5);
        due.is("lent 17", x, x.missing(0, 0, 17, 0), false, 5);
        due.is("lent -1", x, x.missing(0, 0, -1, 0), false, 5);
        due.is("no such key", x, x.missing(6, 0, 17, 0), false, 2);
        due.is("no such door", x, x.missing(0, 3, 17, 0), false, 2);
        due.is("not the only one", x, x.missing(1, 1, 4, 0), false, 9);
        due.is("none that opens it", x, x.missing(3, 0, 4, 0), false, 9);
        due.is("it lies about", x, x.missing(5, 2, 4, 0), false, 9);
        due.is("the only one on the other ring", x, x.missing(4, 0, 8, 0), true, 0);
        due.fraction("the only one on the other ring", x, 1, 2);
        x.lend(1, true);
        due.is("the other one is lent", x, x.missing(2, 1, 8, 2), true, 0);
        due.fraction("the other one is lent", x, 3, 4);
        due.is("it is lent", x, x.missing(1, 1, 8, 0), false, 9);
        due.is("t above how many are there", x, x.missing(2, 1, 8, 4), false, 5);
        due.fraction("as it was", x, 3, 4);
    }

    /** Promise 47: rings of 1 to 10 KEYS, t 0 to n, each sixteenth: lent by n, and the rest by n less t. */
    private static void missingOfAll() {
        String keys = "";
        String on = "";
        for (int n = 1; n <= 10; n++) {
            keys += "key " + (char) ('a' + n) + ";";
            on += " " + (char) ('a' + n);
            DarkRing x = fresh(keys + "ring r" + on + ";door dd wanted 0 by " + (char) ('a' + n) + ";");
            for (int lent = 0; lent <= 16; lent += 4) {
                for (int t = 0; t <= n; t++) {
                    boolean isFine = lent > 0 || t < n;
                    due.is("n " + n + ", lent " + lent + ", t " + t, x, x.missing(n - 1, 0, lent, t), isFine,
                            isFine ? 0 : 9);
                    if (isFine) due.is("top by bottom", x.top() * (lent * n + (16 - lent) * (n - t)), x.bottom() * lent * n);
                }
                due.is("t n + 1", x, x.missing(n - 1, 0, lent, n + 1), false, 5);
                due.is("t -1", x, x.missing(n - 1, 0, lent, -1), false, 5);
            }
            due.is("lent 17", x, x.missing(n - 1, 0, 17, 0), false, 5);
            due.is("lent -1", x, x.missing(n - 1, 0, -1, 0), false, 5);
            due.is("5 ahead of 9", x, x.missing(n - 1, 0, 0, n + 1), false, 5);
        }
    }

    /** Promises 47, 2: a KEY that lies about has no RING whose KEYS t could be above: 9 with each t but one below 0. */
    private static void missingOfOneThatLiesAbout() {
        DarkRing x = fresh(DOORS);
        liesAbout(x, 5, 2);
        for (int key = 0; key < 5; key++) {
            x = fresh(DOORS);
            int n = key == 4 ? 1 : 4;
            due.is("on its ring, t above n", x, x.missing(key, 0, 4, n + 1), false, 5);
            x.off(key);
            liesAbout(x, key, 0);
            liesAbout(x, key, 2);
            x.lend(key, true);
            liesAbout(x, key, 0);
            x.lend(key, false);
            x.put(key, key == 4 ? 1 : 0, 0);
            due.is("on its ring again, t above n", x, x.missing(key, 0, 4, n + 1), false, 5);
            due.is("on its ring again, t n", x, x.missing(key, 0, 4, n), key == 0 || key == 4,
                    key == 0 || key == 4 ? 0 : 9);
        }
        x = fresh("key a;door x wanted 1 by a;");
        liesAbout(x, 0, 0);
    }

    private static void liesAbout(DarkRing x, int key, int door) {
        int[] ts = {0, 1, 2, 3, 4, 5, 10, 11, Integer.MAX_VALUE};
        for (int lent = 0; lent <= 16; lent += 4) {
            for (int t : ts) {
                due.is("it lies about, lent " + lent + ", t " + t, x, x.missing(key, door, lent, t), false, 9);
            }
            due.is("it lies about, t -1", x, x.missing(key, door, lent, -1), false, 5);
        }
        for (int t : ts) {
            due.is("it lies about, lent 17", x, x.missing(key, door, 17, t), false, 5);
            due.is("it lies about, lent -1", x, x.missing(key, door, -1, t), false, 5);
            due.is("it lies about, no such door", x, x.missing(key, 5, 4, t), false, 2);
        }
    }

    /** Promise 48: on a ring of four, lent by 8 sixteenths 4 by 8 less t; each number at both ends. */
    private static void soonOfAll() {
        DarkRing x = fresh(DOORS);
        // 1/2, 4/7, 2/3, 4/5, 1
        int[] sure8 = {-1, 0, 0, 0, 0, 0, 0, 0, 0, 1, 2, 3, 3, 4, 4, 4, 4};
        for (int sure = 1; sure <= 16; sure++) {
            due.is("soon(0, 0, 8, " + sure + ")", x, x.soon(0, 0, 8, sure), sure8[sure], 0);
            due.is("soon(0, 0, 16, " + sure + ")", x, x.soon(0, 0, 16, sure), 0, 0);
            due.is("soon(0, 0, 0, " + sure + ")", x, x.soon(0, 0, 0, sure), -1, 8);
            due.is("soon(4, 0, 1, " + sure + "), one alone", x, x.soon(4, 0, 1, sure), sure == 1 ? 0 : 1, 0);
        }
        due.is("2 ahead of 5", x, x.soon(6, 0, 17, 17), -1, 2);
        due.is("2 ahead of 9", x, x.soon(1, 3, 0, 1), -1, 2);
        due.is("5 ahead of 9", x, x.soon(1, 1, 4, 17), -1, 5);
        due.is("5 ahead of 9", x, x.soon(1, 1, 17, 4), -1, 5);
        due.is("5 ahead of 8", x, x.soon(0, 0, 0, 0), -1, 5);
        due.is("9 ahead of 8", x, x.soon(5, 2, 0, 1), -1, 9);
        due.is("it does not open it", x, x.soon(3, 0, 4, 1), -1, 9);
        due.is("none there opens it", x, x.soon(3, 2, 4, 1), -1, 9);
        due.is("none there opens it", x, x.missing(3, 2, 4, 1), false, 9);
    }

    /** Promise 48. */
    private static void soon() {
        DarkRing x = fresh(DOORS);
        int[] sure4 = {-1, 0, 0, 0, 0, 2, 2, 3, 3, 3, 4, 4, 4, 4, 4, 4, 4};
        // 4/13 is less than 5/16, 2/5 at least 6/16, 4/7 at least 9/16.
        for (int sure = 1; sure <= 16; sure++) {
            due.is("soon(0, 0, 4, " + sure + ")", x, x.soon(0, 0, 4, sure), sure4[sure], 0);
        }
        due.is("surely lent", x, x.soon(0, 0, 16, 16), 0, 0);
        due.is("surely not lent", x, x.soon(0, 0, 0, 1), -1, 8);
        due.is("sure 0", x, x.soon(0, 0, 4, 0), -1, 5);
        due.is("sure 17", x, x.soon(0, 0, 4, 17), -1, 5);
        due.is("lent 17", x, x.soon(0, 0, 17, 1), -1, 5);
        due.is("lent -1", x, x.soon(0, 0, -1, 1), -1, 5);
        due.is("no such key", x, x.soon(6, 0, 0, 0), -1, 2);
        due.is("no such door", x, x.soon(0, -1, 0, 0), -1, 2);
        due.is("not the only one, ahead of 8", x, x.soon(1, 1, 0, 1), -1, 9);
        due.is("it lies about", x, x.soon(5, 2, 4, 1), -1, 9);
        x.lend(0, true);
        due.is("it is lent", x, x.soon(0, 0, 4, 1), -1, 9);
    }

    /** Promises 47, 48: another one that opens, at each other PLACE; it does not count if it is LENT, or elsewhere. */
    private static void theOnlyOne() {
        for (int key = 0; key < 4; key++) {
            for (int other = 0; other < 5; other++) {
                if (other == key) continue;
                DarkRing x = fresh("key a;key b;key c;key d;key e;ring r a b c d;ring q e;door x wanted 1 by "
                        + (char) ('a' + key) + " " + (char) ('a' + other) + ";");
                boolean isOnly = other == 4;
                due.is("missing(" + key + ") beside " + other, x, x.missing(key, 0, 8, 1), isOnly, isOnly ? 0 : 9);
                due.is("soon(" + key + ") beside " + other, x, x.soon(key, 0, 8, 8), isOnly ? 0 : -1, isOnly ? 0 : 9);
                x.lend(other, true);
                due.is("the other one is lent", x, x.missing(key, 0, 8, 1), true, 0);
                due.is("the other one is lent", x, x.soon(key, 0, 8, 8), 0, 0);
                x.lend(other, false);
                x.off(other);
                due.is("the other one lies about", x, x.missing(key, 0, 8, 1), true, 0);
                due.is("the other one lies about", x, x.soon(key, 0, 8, 8), 0, 0);
                x.lend(key, true);
                due.is("it is lent itself", x, x.missing(key, 0, 8, 0), false, 9);
                due.is("it is lent itself", x, x.soon(key, 0, 8, 8), -1, 9);
                x.lend(key, false);
                x.off(key);
                due.is("it lies about itself", x, x.missing(key, 0, 8, 0), false, 9);
                due.is("it lies about itself", x, x.soon(key, 0, 8, 8), -1, 9);
            }
        }
    }

    /** Promise 49: with 4 seconds a try and 1 to go on, so many tries are 5 times so many, less 1. */
    private static void newly() {
        String house = "key a;key b;key c;key d;key e;ring r c d e;ring q;door x wanted 0 by a c;door y wanted 9 by d;"
                + "door z wanted 9 by b;";
        DarkRing x = fresh(house);
        due.is("newly(0, 0, 0)", x, x.newly(0, 0, 0), 2, 0);
        due.fraction("newly(0, 0, 0)", x, 13, 2);
        due.is("another one opens", x, x.newly(0, 0, 1), 0, 0);
        due.fraction("another one opens", x, 23, 2);
        due.is("an empty ring", x, x.newly(0, 1, 0), 0, 0);
        due.fraction("an empty ring", x, 4, 1);
        due.is("none would open", x, x.newly(0, 0, 2), -1, 8);
        due.is("it is on a ring", x, x.newly(2, 0, 2), -1, 9);
        due.is("no such key", x, x.newly(5, 0, 0), -1, 2);
        due.is("no such ring", x, x.newly(2, 2, 0), -1, 2);
        due.is("no such door", x, x.newly(2, 0, 3), -1, 2);
        due.fraction("as it was", x, 4, 1);
        due.is("nothing is put", x, x.key(0, 0), -1, 8);
        x.lend(3, true);
        due.is("one is lent", x, x.newly(0, 0, 0), 0, 0);
        due.fraction("one is lent", x, 17, 3);
        x.lend(0, true);
        due.is("it is lent", x, x.newly(0, 0, 2), -1, 9);
        x = fresh("key a;key b;key c;key d;key e;key f;ring r b c d e f;door x wanted 1 by a b;");
        x.lend(2, true);
        due.is("the place among all", x, x.newly(0, 0, 0), 3, 0);
    }

    /** Promise 49: PLACES 0 to n, of several the first; the ring is as it was. */
    private static void newlyRound() {
        DarkRing x = fresh("key a;key b;key c;key d;key e;ring r c d e b;ring q;door x wanted 0 by a;door y wanted 1 by a c;"
                + "door z wanted 1 by a b;door w wanted 1 by c;");
        due.is("anywhere is as good", x, x.newly(0, 0, 0), 0, 0);
        due.fraction("anywhere is as good: 4, 9, 14, 19, 24", x, 14, 1);
        due.is("far from the first", x, x.newly(0, 0, 1), 2, 0);
        due.fraction("far from the first: 4, 9, 4, 9, 14", x, 8, 1);
        due.is("far from the last", x, x.newly(0, 0, 2), 1, 0);
        due.fraction("far from the last", x, 8, 1);
        due.is("it opens nothing itself", x, x.newly(0, 0, 3), 0, 0);
        due.fraction("it opens nothing itself", x, 14, 1);
        due.is("alone", x, x.newly(0, 1, 1), 0, 0);
        due.fraction("alone", x, 4, 1);
        due.is("9 ahead of 8", x, x.newly(3, 1, 0), -1, 9);
        due.is("none there opens it then", x, x.newly(0, 1, 3), -1, 8);
        due.is("the ring is as it was", x, x.ring(0, DarkRing.NONE), 4, 0);
        x.take(0);
        x.newly(0, 0, 0);
        due.is("held as it was", x, x.many(10), 0, 0);
        x = fresh("key a;key b;key c;key d;ring r b c d;door x wanted 1 by a c;");
        due.is("at the end it is as at the beginning", x, x.newly(0, 0, 0), 0, 0);
        due.fraction("4, 9, 4, 9", x, 13, 2);
        x = fresh("key a;key b;key c;ring r b;door x wanted 1 by a b;");
        due.is("ahead of one or behind it", x, x.newly(0, 0, 0), 0, 0);
        due.fraction("ahead of one or behind it", x, 4, 1);
        x = fresh("key a;key b;key c;key d;key e;key f;key g;key h;key i;key j;ring r b c d e f g h i j;"
                + "door x wanted 1 by a b;");
        due.is("the tenth", x, x.newly(0, 0, 0), 5, 0);
        due.fraction("the tenth: twice 4, 9, 14, 19, 24", x, 14, 1);
    }
}
