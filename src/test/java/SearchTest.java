/** Promises 35 to 42: seconds of searching, and the best orders. */
public final class SearchTest {
    private static final Due due = new Due();
    /** So many tries are 5 times so many, less 2, seconds. */
    private static final String HOUSE = "key a;key b;key c;key d;key e;key f;key l;ring r a b c d;ring q e;ring p f;"
            + "door x wanted 2 by c;door y wanted 1 by a d;door z wanted 5 by e;door n wanted 0 by b;"
            + "door m wanted 9 by l;seconds feel 1 try 3 go 2 drop 7;turned 4;round x y x;";

    public static void main(String[] args) {
        searched();
        from();
        anywhere();
        laid();
        inRow();
        walked();
        laidForRound();
        tooMany();
        due.end("SearchTest");
    }

    private static DarkRing fresh(String house) {
        DarkRing x = new DarkRing();
        Due.house(x, house);
        return x;
    }

    private static void found(DarkRing x, int... all) {
        for (int k = 0; k < all.length; k++) due.is("found(" + k + ")", x, x.found(k), all[k], 0);
        due.is("found(" + all.length + ")", x, x.found(all.length), -1, 8);
        due.is("found(-1)", x, x.found(-1), -1, 8);
    }

    /** Promise 35. */
    private static void searched() {
        DarkRing x = fresh(HOUSE);
        due.is("searched(0, 0, 0, 0)", x, x.searched(0, 0, 0, 0), 13, 0);
        due.is("searched(0, 0, 0, 1)", x, x.searched(0, 0, 0, 1), 13, 0);
        due.is("searched(0, 0, 1, 0)", x, x.searched(0, 0, 1, 0), 8, 0);
        due.is("searched(0, 0, 1, 1)", x, x.searched(0, 0, 1, 1), 18, 0);
        due.is("searched(0, 0, 2, 1)", x, x.searched(0, 0, 2, 1), 3, 0);
        due.is("searched(0, 1, 1, 0)", x, x.searched(0, 1, 1, 0), 13, 0);
        due.is("searched(0, 3, 0, 0)", x, x.searched(0, 3, 0, 0), 8, 0);
        due.is("searched(0, 2, 0, 0)", x, x.searched(0, 2, 0, 0), -1, 8);
        due.is("searched(0, 2, 4, 0)", x, x.searched(0, 2, 4, 0), -1, 5);
        due.is("searched(0, 0, -1, 0)", x, x.searched(0, 0, -1, 0), -1, 5);
        due.is("searched(0, 0, 0, 2)", x, x.searched(0, 0, 0, 2), -1, 5);
        due.is("searched(3, 0, 9, 0)", x, x.searched(3, 0, 9, 0), -1, 2);
        due.is("searched(0, 5, 9, 0)", x, x.searched(0, 5, 9, 0), -1, 2);
        x.lend(1, true);
        due.is("a lent one is stepped over", x, x.searched(0, 0, 0, 0), 8, 0);
        due.is("and has no place", x, x.searched(0, 0, 3, 0), -1, 5);
        x.lend(2, true);
        due.is("a lent one opens nothing", x, x.searched(0, 0, 0, 0), -1, 8);
    }

    /** Promise 36. */
    private static void from() {
        DarkRing x = fresh(HOUSE);
        due.is("from(0, 0, 0)", x, x.from(0, 0, 0), true, 0);
        due.fraction("from(0, 0, 0)", x, 29, 3);
        due.is("from(0, 1, 1)", x, x.from(0, 1, 1), true, 0);
        due.fraction("from(0, 1, 1)", x, 44, 3);
        due.is("from(0, 4, 0)", x, x.from(0, 4, 0), false, 5);
        due.is("from(0, -1, 0)", x, x.from(0, -1, 0), false, 5);
        due.is("from(0, 0, 2)", x, x.from(0, 0, 2), false, 5);
        due.is("from(2, 0, 0)", x, x.from(2, 0, 0), false, 8);
        due.is("from(2, 1, 0)", x, x.from(2, 1, 0), false, 5);
        due.is("from(3, 0, 0)", x, x.from(3, 0, 0), false, 2);
        due.fraction("as it was", x, 44, 3);
        x.off(0);
        x.off(2);
        x.off(3);
        due.is("what opens is not wanted", x, x.from(0, 0, 0), false, 8);
    }

    /** Promise 37. */
    private static void anywhere() {
        DarkRing x = fresh(HOUSE);
        due.is("anywhere(0)", x, x.anywhere(0), true, 0);
        due.fraction("anywhere(0)", x, 37, 4);
        due.is("anywhere(1)", x, x.anywhere(1), true, 0);
        due.fraction("anywhere(1)", x, 3, 1);
        due.is("anywhere(2)", x, x.anywhere(2), false, 8);
        due.is("anywhere(3)", x, x.anywhere(3), false, 2);
        due.is("anywhere(-1)", x, x.anywhere(-1), false, 2);
        for (int turned = 0; turned <= 16; turned++) {
            x = fresh(HOUSE.replace("turned 4", "turned " + turned));
            x.anywhere(0);
            due.fraction("both ways are as long", x, 37, 4);
        }
    }

    /** Promises 38, 42. */
    private static void laid() {
        DarkRing x = fresh(HOUSE);
        due.is("laid(0, false)", x, x.laid(0, false), 2, 0);
        due.fraction("laid(0, false)", x, 14, 3);
        found(x, 2, 0, 1, 3);
        due.is("laid(0, true)", x, x.laid(0, true), 0, 0);
        due.fraction("laid(0, true)", x, 53, 6);
        found(x, 0, 1, 3, 2);
        due.is("laid(2, true)", x, x.laid(2, true), -1, 8);
        due.is("laid(3, true)", x, x.laid(3, true), -1, 2);
        due.is("laid(-1, true)", x, x.laid(-1, true), -1, 2);
        found(x, 0, 1, 3, 2);
        due.fraction("as it was", x, 53, 6);
        due.is("nothing is laid", x, x.ring(0, 2), 2, 0);
        x.lend(0, true);
        due.is("those that are there", x, x.laid(0, false), 2, 0);
        due.fraction("those that are there", x, 14, 3);
        found(x, 2, 3, 1);
        Due.house(x, "key a;");
        found(x, 2, 3, 1);
    }

    /** Promises 39, 42. */
    private static void inRow() {
        DarkRing x = fresh(HOUSE);
        due.is("inRow(2)", x, x.inRow(2), 3, 0);
        due.fraction("inRow(2)", x, 3, 1);
        found(x, 1, 0, 2);
        due.is("inRow(1)", x, x.inRow(1), 3, 0);
        due.fraction("inRow(1)", x, 27, 4);
        found(x, 0, 1, 2);
        due.is("inRow(4), by a key that lies about", x, x.inRow(4), -1, 8);
        due.is("inRow(5)", x, x.inRow(5), -1, 2);
        due.is("inRow(-1)", x, x.inRow(-1), -1, 2);
        found(x, 0, 1, 2);
        x.lend(4, true);
        due.is("a ring without keys is left out", x, x.inRow(0), 2, 0);
        found(x, 0, 2);
        due.is("none opens", x, x.inRow(2), -1, 8);
        x = fresh("key a;key b;key c;key d;ring r a b c;ring q d;door w wanted 1 by a d;"
                + "seconds feel 1 try 3 go 2 drop 1;");
        due.is("inRow(0)", x, x.inRow(0), 2, 0);
        due.fraction("the shorter ring ahead", x, 3, 1);
        found(x, 1, 0);
        // Both orders are as long: the first by numbers.
        x = fresh("key a;key b;ring r a;ring q b;door w wanted 1 by a b;");
        due.is("inRow(0)", x, x.inRow(0), 2, 0);
        found(x, 0, 1);
    }

    /** Promise 40. */
    private static void walked() {
        DarkRing x = fresh(HOUSE);
        due.is("walked(0)", x, x.walked(0), 17, 0);
        due.is("walked(1)", x, x.walked(1), -1, 8);
        due.is("walked(3)", x, x.walked(3), -1, 2);
        due.is("walked(-1)", x, x.walked(-1), -1, 2);
        String five = "key a;key b;key c;key d;key e;ring r a b c d e;door u wanted 1 by b e;door v wanted 1 by c;"
                + "door w wanted 1 by d;door s wanted 1 by a;seconds feel 1 try 3 go 2 drop 7;";
        due.is("no round", fresh(five).walked(0), -1);
        x = fresh(five);
        due.is("no round", x, x.walked(0), -1, 8);
        x = fresh(five + "round u v;");
        due.is("of two the one on with way 0", x, x.walked(0), 10, 0);
        x = fresh(five + "round u w;");
        due.is("of two the one on with way 0, again", x, x.walked(0), 12, 0);
        x = fresh(five + "round s s;");
        due.is("where one is", x, x.walked(0), 6, 0);
        x = fresh(five + "round w s;");
        due.is("there and back", x, x.walked(0), 14, 0);
        x.lend(4, true);
        due.is("a lent one is stepped over", x, x.walked(0), 10, 0);
        x.lend(3, true);
        due.is("a lent one opens nothing", x, x.walked(0), -1, 8);
    }

    /** Promises 41, 42. */
    private static void laidForRound() {
        DarkRing x = fresh(HOUSE);
        x.anywhere(1);
        due.is("laidForRound(0)", x, x.laidForRound(0), 13, 0);
        found(x, 2, 0, 1, 3);
        due.fraction("it tells no fraction", x, 3, 1);
        due.is("laidForRound(1)", x, x.laidForRound(1), -1, 8);
        due.is("laidForRound(3)", x, x.laidForRound(3), -1, 2);
        due.is("laidForRound(-1)", x, x.laidForRound(-1), -1, 2);
        found(x, 2, 0, 1, 3);
        x = fresh(HOUSE.replace("round x y x;", ""));
        due.is("no round", x, x.laidForRound(0), -1, 8);
        found(x);
    }

    private static void tooMany() {
        String keys = "key a;key b;key c;key d;key e;key f;key g;ring r a b c d e f g;";
        DarkRing x = fresh(keys);
        due.is("seven keys, no door", x, x.laid(0, true), -1, 7);
        due.is("seven keys, no round", x, x.laidForRound(0), -1, 7);
        x = fresh(keys + "door x wanted 1 by g;round x;");
        due.is("seven keys", x, x.laid(0, false), -1, 7);
        due.is("seven keys", x, x.laidForRound(0), -1, 7);
        x.lend(0, true);
        due.is("six are there", x, x.laid(0, false), 6, 0);
        found(x, 6, 1, 2, 3, 4, 5);
        due.is("six are there", x, x.laidForRound(0), 4, 0);
        found(x, 6, 1, 2, 3, 4, 5);
    }
}
