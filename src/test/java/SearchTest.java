/** Promises 35 to 42: seconds of searching, and the best orders. */
public final class SearchTest {
    private static final Due due = new Due();
    /** So many tries are 5 times so many, less 2, seconds. */
    private static final String HOUSE = "key a;key b;key c;key d;key e;key f;key l;ring r a b c d;ring q e;ring p f;"
            + "door x wanted 2 by c;door y wanted 1 by a d;door z wanted 5 by e;door n wanted 0 by b;"
            + "door m wanted 9 by l;seconds feel 1 try 3 go 2 drop 7;turned 4;round x y x;";

    public static void main(String[] args) {
        searched();
        searchedRound();
        from();
        fromAndAnywhereOfOne();
        anywhere();
        laid();
        laidLast();
        laidOfSeveral();
        inRow();
        ringsInARow();
        walked();
        walkedRound();
        laidForRound();
        laidForRoundOfSeveral();
        tooMany();
        sixOrSeven();
        foundByWhom();
        due.end("SearchTest");
    }

    private static DarkRing fresh(String house) {
        DarkRing x = new DarkRing();
        Due.house(x, house);
        return x;
    }

    private static void found(DarkRing x, int... all) {
        for (int k = 0; k < all.length; k++) due.is("found(" + k + ")", x, x.found(k), all[k], 0);
        due.is("found(" + all.length + ")", x, x.found(all.length), -1, 8);
        due.is("found(-1)", x, x.found(-1), -1, 8);
    }

    /** Promise 35. */
    private static void searched() {
        DarkRing x = fresh(HOUSE);
        due.is("searched(0, 0, 0, 0)", x, x.searched(0, 0, 0, 0), 13, 0);
        due.is("searched(0, 0, 0, 1)", x, x.searched(0, 0, 0, 1), 13, 0);
        due.is("searched(0, 0, 1, 0)", x, x.searched(0, 0, 1, 0), 8, 0);
        due.is("searched(0, 0, 1, 1)", x, x.searched(0, 0, 1, 1), 18, 0);
        due.is("searched(0, 0, 2, 1)", x, x.searched(0, 0, 2, 1), 3, 0);
        due.is("searched(0, 1, 1, 0)", x, x.searched(0, 1, 1, 0), 13, 0);
        due.is("searched(0, 3, 0, 0)", x, x.searched(0, 3, 0, 0), 8, 0);
        due.is("searched(0, 2, 0, 0)", x, x.searched(0, 2, 0, 0), -1, 8);
        due.is("searched(0, 2, 4, 0)", x, x.searched(0, 2, 4, 0), -1, 5);
        due.is("searched(0, 0, -1, 0)", x, x.searched(0, 0, -1, 0), -1, 5);
        due.is("searched(0, 0, 0, 2)", x, x.searched(0, 0, 0, 2), -1, 5);
        due.is("searched(3, 0, 9, 0)", x, x.searched(3, 0, 9, 0), -1, 2);
        due.is("searched(0, 5, 9, 0)", x, x.searched(0, 5, 9, 0), -1, 2);
        x.lend(1, true);
        due.is("a lent one is stepped over", x, x.searched(0, 0, 0, 0), 8, 0);
        due.is("and has no place", x, x.searched(0, 0, 3, 0), -1, 5);
        x.lend(2, true);
        due.is("a lent one opens nothing", x, x.searched(0, 0, 0, 0), -1, 8);
    }

    /** Promise 35: round the ring with each way, from each PLACE; a RING of one KEY; with 5 seconds so many times less 2. */
    private static void searchedRound() {
        DarkRing x = fresh("key a;key b;key c;key d;key e;ring r a b c d e;ring q;door x wanted 0 by a;"
                + "door y wanted 0 by b d;seconds feel 1 try 3 go 2 drop 7;");
        int[] on = {1, 5, 4, 3, 2};
        int[] back = {1, 2, 3, 4, 5};
        int[] onTwo = {2, 1, 2, 1, 3};
        int[] backTwo = {3, 1, 2, 1, 2};
        for (int place = 0; place < 5; place++) {
            due.is("on", x, x.searched(0, 0, place, 0), 5 * on[place] - 2, 0);
            due.is("back", x, x.searched(0, 0, place, 1), 5 * back[place] - 2, 0);
            due.is("on to one of two", x, x.searched(0, 1, place, 0), 5 * onTwo[place] - 2, 0);
            due.is("back to one of two", x, x.searched(0, 1, place, 1), 5 * backTwo[place] - 2, 0);
        }
        due.is("the first place that is not", x, x.searched(0, 0, 5, 0), -1, 5);
        due.is("the last ahead of 0", x, x.searched(0, 0, -1, 1), -1, 5);
        due.is("the first way that is not", x, x.searched(0, 0, 4, 2), -1, 5);
        due.is("the last way ahead of 0", x, x.searched(0, 0, 4, -1), -1, 5);
        due.is("no place on an empty ring", x, x.searched(1, 0, 0, 0), -1, 5);
        x = fresh("key a;ring r a;door x wanted 0 by a;seconds feel 1 try 99 go 98 drop 7;");
        due.is("one key", x, x.searched(0, 0, 0, 0), 99, 0);
        due.is("one key, way 1", x, x.searched(0, 0, 0, 1), 99, 0);
        due.is("2 ahead of 5", x, x.searched(0, 1, 9, 0), -1, 2);
        due.is("2 ahead of 8", x, x.searched(1, 0, 0, 0), -1, 2);
        x.lend(0, true);
        due.is("5 ahead of 8", x, x.searched(0, 0, 0, 0), -1, 5);
    }

    /** Promises 36, 37: WANTED from 0 to 99 so often; a RING of one KEY, of none. */
    private static void fromAndAnywhereOfOne() {
        DarkRing x = fresh("key a;key b;ring r a b;ring q;door x wanted 99 by a;door y wanted 1 by b;door z wanted 0 by a;");
        due.is("from(0, 0, 0)", x, x.from(0, 0, 0), true, 0);
        due.fraction("99 times 4 and 9, by 100", x, 81, 20);
        due.is("from(0, 1, 1)", x, x.from(0, 1, 1), true, 0);
        due.fraction("99 times 9 and 4, by 100", x, 179, 20);
        due.is("anywhere(0)", x, x.anywhere(0), true, 0);
        due.fraction("13 by 2", x, 13, 2);
        due.is("from(0, 2, 0)", x, x.from(0, 2, 0), false, 5);
        due.is("from(0, 1, 2)", x, x.from(0, 1, 2), false, 5);
        due.is("from(0, 1, -1)", x, x.from(0, 1, -1), false, 5);
        due.is("from(1, 0, 0)", x, x.from(1, 0, 0), false, 5);
        due.is("anywhere(1)", x, x.anywhere(1), false, 8);
        due.is("from(2, 2, 2)", x, x.from(2, 2, 2), false, 2);
        x.lend(1, true);
        due.is("one is there", x, x.from(0, 0, 1), true, 0);
        due.fraction("one is there", x, 4, 1);
        x.anywhere(0);
        due.fraction("one is there, anywhere", x, 4, 1);
        x = fresh("key a;ring r a;door x wanted 0 by a;");
        due.is("wanted 0 times", x, x.from(0, 0, 0), false, 8);
        due.is("wanted 0 times, anywhere", x, x.anywhere(0), false, 8);
        due.is("wanted 0 times, laid", x, x.laid(0, false), -1, 8);
        due.is("searched all the same", x, x.searched(0, 0, 0, 0), 4, 0);
        due.is("in a row all the same", x, x.inRow(0), 1, 0);
        x = fresh("key a;ring r a;door x wanted 1 by a;");
        due.is("wanted once", x, x.from(0, 0, 0), true, 0);
        due.is("wanted once, laid", x, x.laid(0, true), 0, 0);
        found(x, 0);
    }

    /** Promise 36. */
    private static void from() {
        DarkRing x = fresh(HOUSE);
        due.is("from(0, 0, 0)", x, x.from(0, 0, 0), true, 0);
        due.fraction("from(0, 0, 0)", x, 29, 3);
        due.is("from(0, 1, 1)", x, x.from(0, 1, 1), true, 0);
        due.fraction("from(0, 1, 1)", x, 44, 3);
        due.is("from(0, 4, 0)", x, x.from(0, 4, 0), false, 5);
        due.is("from(0, -1, 0)", x, x.from(0, -1, 0), false, 5);
        due.is("from(0, 0, 2)", x, x.from(0, 0, 2), false, 5);
        due.is("from(2, 0, 0)", x, x.from(2, 0, 0), false, 8);
        due.is("from(2, 1, 0)", x, x.from(2, 1, 0), false, 5);
        due.is("from(3, 0, 0)", x, x.from(3, 0, 0), false, 2);
        due.fraction("as it was", x, 44, 3);
        x.off(0);
        x.off(2);
        x.off(3);
        due.is("what opens is not wanted", x, x.from(0, 0, 0), false, 8);
    }

    /** Promise 37. */
    private static void anywhere() {
        DarkRing x = fresh(HOUSE);
        due.is("anywhere(0)", x, x.anywhere(0), true, 0);
        due.fraction("anywhere(0)", x, 37, 4);
        due.is("anywhere(1)", x, x.anywhere(1), true, 0);
        due.fraction("anywhere(1)", x, 3, 1);
        due.is("anywhere(2)", x, x.anywhere(2), false, 8);
        due.is("anywhere(3)", x, x.anywhere(3), false, 2);
        due.is("anywhere(-1)", x, x.anywhere(-1), false, 2);
        for (int turned = 0; turned <= 16; turned++) {
            x = fresh(HOUSE.replace("turned 4", "turned " + turned));
            x.anywhere(0);
            due.fraction("both ways are as long", x, 37, 4);
        }
    }

    /** Promises 38, 42. */
    private static void laid() {
        DarkRing x = fresh(HOUSE);
        due.is("laid(0, false)", x, x.laid(0, false), 2, 0);
        due.fraction("laid(0, false)", x, 14, 3);
        found(x, 2, 0, 1, 3);
        due.is("laid(0, true)", x, x.laid(0, true), 0, 0);
        due.fraction("laid(0, true)", x, 53, 6);
        found(x, 0, 1, 3, 2);
        due.is("laid(2, true)", x, x.laid(2, true), -1, 8);
        due.is("laid(3, true)", x, x.laid(3, true), -1, 2);
        due.is("laid(-1, true)", x, x.laid(-1, true), -1, 2);
        found(x, 0, 1, 3, 2);
        due.fraction("as it was", x, 53, 6);
        due.is("nothing is laid", x, x.ring(0, 2), 2, 0);
        x.lend(0, true);
        due.is("those that are there", x, x.laid(0, false), 2, 0);
        due.fraction("those that are there", x, 14, 3);
        found(x, 2, 3, 1);
        Due.house(x, "key a;");
        found(x, 2, 3, 1);
    }

    /** Promise 38: the last of 720 orders, the first of them, where they lie on the ring as they may. */
    private static void laidLast() {
        String keys = "key a;key b;key c;key d;key e;key f;ring r c f a e b d;";
        DarkRing x = fresh(keys + "door v wanted 50 by f;door w wanted 40 by e;door x wanted 30 by d;"
                + "door y wanted 20 by c;door z wanted 10 by b;");
        due.is("the last order", x, x.laid(0, false), 5, 0);
        due.fraction("50 of 4, 40 of 9, 30 of 14, 20 of 19, 10 of 24", x, 32, 3);
        found(x, 5, 4, 3, 2, 1, 0);
        x = fresh(keys + "door v wanted 50 by a;door w wanted 40 by b;door x wanted 30 by c;"
                + "door y wanted 20 by d;door z wanted 10 by e;");
        due.is("the first order", x, x.laid(0, false), 0, 0);
        due.fraction("the same", x, 32, 3);
        found(x, 0, 1, 2, 3, 4, 5);
        due.is("nothing is laid", x, x.ring(0, 0), 2, 0);
        x = fresh(keys + "door v wanted 1 by c;");
        due.is("the one ahead, the others as they are numbered", x, x.laid(0, false), 2, 0);
        found(x, 2, 0, 1, 3, 4, 5);
    }

    /** Promise 38: of several orders the first, PLACE by PLACE the lesser KEY. */
    private static void laidOfSeveral() {
        DarkRing x = fresh("key a;key b;key c;key d;ring r d b a;door x wanted 1 by a b d;turned 3;");
        due.is("all are as good", x, x.laid(0, false), 0, 0);
        due.fraction("all are as good", x, 4, 1);
        found(x, 0, 1, 3);
        due.is("all are as good, anywhere", x, x.laid(0, true), 0, 0);
        due.fraction("all are as good, anywhere", x, 4, 1);
        found(x, 0, 1, 3);
        x = fresh("key a;key b;key c;key d;ring r d c b a;door x wanted 1 by a c;");
        due.is("two that open are best apart", x, x.laid(0, true), 0, 0);
        due.fraction("4, 9, 4, 9 by 4", x, 13, 2);
        found(x, 0, 1, 2, 3);
        x = fresh("key a;key b;key c;key d;ring r d c b a;door x wanted 1 by a b;");
        due.is("two that open, a and b", x, x.laid(0, true), 0, 0);
        due.fraction("two that open, a and b", x, 13, 2);
        found(x, 0, 2, 1, 3);
        due.is("from place 0", x, x.laid(0, false), 0, 0);
        found(x, 0, 1, 2, 3);
    }

    /** Promises 39, 42. */
    private static void inRow() {
        DarkRing x = fresh(HOUSE);
        due.is("inRow(2)", x, x.inRow(2), 3, 0);
        due.fraction("inRow(2)", x, 3, 1);
        found(x, 1, 0, 2);
        due.is("inRow(1)", x, x.inRow(1), 3, 0);
        due.fraction("inRow(1)", x, 27, 4);
        found(x, 0, 1, 2);
        due.is("inRow(4), by a key that lies about", x, x.inRow(4), -1, 8);
        due.is("inRow(5)", x, x.inRow(5), -1, 2);
        due.is("inRow(-1)", x, x.inRow(-1), -1, 2);
        found(x, 0, 1, 2);
        x.lend(4, true);
        due.is("a ring without keys is left out", x, x.inRow(0), 2, 0);
        found(x, 0, 2);
        due.is("none opens", x, x.inRow(2), -1, 8);
        x = fresh("key a;key b;key c;key d;ring r a b c;ring q d;door w wanted 1 by a d;"
                + "seconds feel 1 try 3 go 2 drop 1;");
        due.is("inRow(0)", x, x.inRow(0), 2, 0);
        due.fraction("the shorter ring ahead", x, 3, 1);
        found(x, 1, 0);
        // Both orders are as long: the first by numbers.
        x = fresh("key a;key b;ring r a;ring q b;door w wanted 1 by a b;");
        due.is("inRow(0)", x, x.inRow(0), 2, 0);
        found(x, 0, 1);
    }

    /** Promise 39: the RING with the least MEAN ahead, then the others by numbers, be it that they open or not. */
    private static void ringsInARow() {
        String house = "key a;key b;key c;key d;key e;key f;ring r a b c;ring q d e;ring p f;";
        DarkRing x = fresh(house + "door u wanted 0 by f;door v wanted 0 by a d;door w wanted 0 by a b c d;"
                + "door x wanted 0 by a b d;door y wanted 0 by b;");
        due.is("the last ring alone opens", x, x.inRow(0), 3, 0);
        due.fraction("the last ring alone opens", x, 4, 1);
        found(x, 2, 0, 1);
        due.is("two of three open", x, x.inRow(1), 3, 0);
        due.fraction("of (4, 9, 14) and (4, 9) the second", x, 13, 2);
        found(x, 1, 0, 2);
        due.is("all of the first", x, x.inRow(2), 3, 0);
        due.fraction("all of the first", x, 4, 1);
        found(x, 0, 1, 2);
        due.is("of (4, 4, 9) and (4, 9) the first", x, x.inRow(3), 3, 0);
        due.fraction("of (4, 4, 9) and (4, 9) the first", x, 17, 3);
        found(x, 0, 1, 2);
        due.is("one of the first", x, x.inRow(4), 3, 0);
        due.fraction("one of the first", x, 9, 1);
        found(x, 0, 1, 2);
        x.lend(1, true);
        due.is("it is lent", x, x.inRow(4), -1, 8);
        x.lend(5, true);
        due.is("a ring of which all are lent is left out", x, x.inRow(1), 2, 0);
        due.fraction("both are as good", x, 13, 2);
        found(x, 0, 1);
        due.is("none opens", x, x.inRow(0), -1, 8);
        x = fresh("key a;key b;key c;ring r a;ring q b;ring p c;door u wanted 1 by a b c;");
        due.is("all three open", x, x.inRow(0), 3, 0);
        Due.house(x, "key a;key b;ring r a;door u wanted 1 by b;");
        due.is("of a house ahead nothing opens", x, x.inRow(0), -1, 8);
        Due.house(x, "key a;key b;ring r a;ring q b;door u wanted 1 by b;");
        due.is("two rings", x, x.inRow(0), 2, 0);
        found(x, 1, 0);
        x = fresh("key a;door u wanted 1 by a;");
        due.is("no ring", x, x.inRow(0), -1, 8);
        x = fresh("ring r;ring q;ring p;key a;door u wanted 1 by a;");
        due.is("no key on a ring", x, x.inRow(0), -1, 8);
        x.put(0, 2, 0);
        due.is("one on the last", x, x.inRow(0), 1, 0);
        found(x, 2);
    }

    /** Promise 40. */
    private static void walked() {
        DarkRing x = fresh(HOUSE);
        due.is("walked(0)", x, x.walked(0), 17, 0);
        due.is("walked(1)", x, x.walked(1), -1, 8);
        due.is("walked(3)", x, x.walked(3), -1, 2);
        due.is("walked(-1)", x, x.walked(-1), -1, 2);
        String five = "key a;key b;key c;key d;key e;ring r a b c d e;door u wanted 1 by b e;door v wanted 1 by c;"
                + "door w wanted 1 by d;door s wanted 1 by a;seconds feel 1 try 3 go 2 drop 7;";
        due.is("no round", fresh(five).walked(0), -1);
        x = fresh(five);
        due.is("no round", x, x.walked(0), -1, 8);
        x = fresh(five + "round u v;");
        due.is("of two the one on with way 0", x, x.walked(0), 10, 0);
        x = fresh(five + "round u w;");
        due.is("of two the one on with way 0, again", x, x.walked(0), 12, 0);
        x = fresh(five + "round s s;");
        due.is("where one is", x, x.walked(0), 6, 0);
        x = fresh(five + "round w s;");
        due.is("there and back", x, x.walked(0), 14, 0);
        x.lend(4, true);
        due.is("a lent one is stepped over", x, x.walked(0), 10, 0);
        x.lend(3, true);
        due.is("a lent one opens nothing", x, x.walked(0), -1, 8);
    }

    /** Promise 40: this way or that round the ring; half of it is as far; one KEY alone; twelve DOORS. */
    private static void walkedRound() {
        String six = "key a;key b;key c;key d;key e;key f;ring r a b c d e f;ring q;door o wanted 0 by a;"
                + "door p wanted 0 by c;door s wanted 0 by d;door t wanted 0 by f;door u wanted 0 by c e;"
                + "seconds feel 1 try 1 go 10 drop 1;";
        String[] rounds = {"o", "p", "s", "t", "u", "t p", "t s t", "u p", "s u", "s t o p", "t u t"};
        // o 0, p 2, s 3, t 1 back; u: c two on, or e two back, is c; t p: 1 back, 3 on; s u: 3, c or e, one on is e ..
        int[] go = {0, 2, 3, 1, 2, 4, 5, 2, 4, 8, 3};
        for (int i = 0; i < rounds.length; i++) {
            DarkRing x = fresh(six + "round " + rounds[i] + ";");
            int doors = (rounds[i].length() + 1) / 2;
            due.is("round " + rounds[i], x, x.walked(0), 10 * go[i] + doors, 0);
        }
        DarkRing x = fresh(six + "round s u p;");
        due.is("s, then e, then c", x, x.walked(0), 63, 0);
        x = fresh(six + "round o o o o o o o o o o o o;");
        due.is("twelve doors where one is", x, x.walked(0), 12, 0);
        x = fresh(six + "round p o p o p o p o p o p o;");
        due.is("twelve doors there and back", x, x.walked(0), 252, 0);
        due.is("an empty ring", x, x.walked(1), -1, 8);
        x.lend(0, true);
        due.is("one door without a key", x, x.walked(0), -1, 8);
        x = fresh("key a;ring r a;door o wanted 0 by a;seconds feel 1 try 9 go 10 drop 1;round o o;");
        due.is("one key alone", x, x.walked(0), 18, 0);
        x = fresh("key a;key b;ring r a b;door o wanted 0 by b;seconds feel 1 try 9 go 10 drop 1;round o o;");
        due.is("two keys", x, x.walked(0), 28, 0);
    }

    /** Promise 41: of several orders the first; the last of all orders of six. */
    private static void laidForRoundOfSeveral() {
        DarkRing x = fresh("key a;key b;key c;ring r c b a;door o wanted 0 by a b c;round o o;");
        due.is("all are as good", x, x.laidForRound(0), 8, 0);
        found(x, 0, 1, 2);
        String six = "key a;key b;key c;key d;key e;key f;ring r b d f a c e;door o wanted 0 by f;"
                + "door p wanted 0 by e;door s wanted 0 by d;door t wanted 0 by c;door u wanted 0 by b;"
                + "seconds feel 1 try 1 go 10 drop 1;";
        x = fresh(six + "round o p s t u;");
        due.is("one behind the other", x, x.laidForRound(0), 45, 0);
        found(x, 5, 0, 1, 2, 3, 4);
        x = fresh(six + "round o o o p o p;");
        due.is("side by side", x, x.laidForRound(0), 36, 0);
        found(x, 5, 0, 1, 2, 3, 4);
        x = fresh("key a;ring r a;door o wanted 0 by a;round o;");
        due.is("one key", x, x.laidForRound(0), 4, 0);
        found(x, 0);
        due.is("no such ring", x, x.laidForRound(1), -1, 2);
        x.off(0);
        due.is("no key", x, x.laidForRound(0), -1, 8);
        found(x, 0);
    }

    /** Promises 38, 41: at most 6 KEYS that are there; 2 ahead of 7, 7 ahead of 8. */
    private static void sixOrSeven() {
        String house = "ring r";
        String keys = "";
        for (int n = 1; n <= 10; n++) {
            keys += "key " + (char) ('a' + n) + ";";
            house += " " + (char) ('a' + n);
            DarkRing x = fresh(keys + house + ";door o wanted 1 by " + (char) ('a' + n) + ";round o;");
            boolean isFine = n <= 6;
            due.is("laid(0, false), n " + n, x, x.laid(0, false), isFine ? n - 1 : -1, isFine ? 0 : 7);
            due.is("laid(0, true), n " + n, x, x.laid(0, true), isFine ? 0 : -1, isFine ? 0 : 7);
            due.is("laidForRound(0), n " + n, x, x.laidForRound(0), isFine ? 4 : -1, isFine ? 0 : 7);
            due.is("laid(1, false), n " + n, x, x.laid(1, false), -1, 2);
            due.is("laidForRound(1), n " + n, x, x.laidForRound(1), -1, 2);
            for (int k = 6; k < n; k++) x.lend(k - 6, true);
            due.is("lent down to six", x, x.laid(0, false), n - 1, 0);
        }
    }

    /** Promise 42: by laid(), inRow(), laidForRound() latest with STATUS 0, whatever came behind. */
    private static void foundByWhom() {
        DarkRing x = new DarkRing();
        found(x);
        Due.house(x, HOUSE);
        found(x);
        x.inRow(2);
        found(x, 1, 0, 2);
        x.laid(0, false);
        found(x, 2, 0, 1, 3);
        x.inRow(1);
        found(x, 0, 1, 2);
        x.laidForRound(0);
        found(x, 2, 0, 1, 3);
        x.laid(2, false);
        x.laid(3, false);
        x.laidForRound(1);
        x.inRow(4);
        x.inRow(5);
        x.newly(6, 0, 0);
        x.from(0, 0, 0);
        x.anywhere(0);
        x.walked(0);
        found(x, 2, 0, 1, 3);
        x.laid(1, false);
        found(x, 4);
        x.house(0);
        found(x, 4);
    }

    /** Promises 41, 42. */
    private static void laidForRound() {
        DarkRing x = fresh(HOUSE);
        x.anywhere(1);
        due.is("laidForRound(0)", x, x.laidForRound(0), 13, 0);
        found(x, 2, 0, 1, 3);
        due.fraction("it tells no fraction", x, 3, 1);
        due.is("laidForRound(1)", x, x.laidForRound(1), -1, 8);
        due.is("laidForRound(3)", x, x.laidForRound(3), -1, 2);
        due.is("laidForRound(-1)", x, x.laidForRound(-1), -1, 2);
        found(x, 2, 0, 1, 3);
        x = fresh(HOUSE.replace("round x y x;", ""));
        due.is("no round", x, x.laidForRound(0), -1, 8);
        found(x);
    }

    private static void tooMany() {
        String keys = "key a;key b;key c;key d;key e;key f;key g;ring r a b c d e f g;";
        DarkRing x = fresh(keys);
        due.is("seven keys, no door", x, x.laid(0, true), -1, 7);
        due.is("seven keys, no round", x, x.laidForRound(0), -1, 7);
        x = fresh(keys + "door x wanted 1 by g;round x;");
        due.is("seven keys", x, x.laid(0, false), -1, 7);
        due.is("seven keys", x, x.laidForRound(0), -1, 7);
        x.lend(0, true);
        due.is("six are there", x, x.laid(0, false), 6, 0);
        found(x, 6, 1, 2, 3, 4, 5);
        due.is("six are there", x, x.laidForRound(0), 4, 0);
        found(x, 6, 1, 2, 3, 4, 5);
    }
}
