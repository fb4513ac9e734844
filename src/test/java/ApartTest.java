/** Promises 43 to 49: what tells keys apart, what is missing, what is new. */
public final class ApartTest {
    private static final Due due = new Due();
    private static final String KEYS = "feature size steps 3 turned;feature nick steps 2;"
            + "key a 0 0;key b 2 0;key c 1 1;key d 1 1;key e 0 1;ring r a b c d e;ring q;";

    public static void main(String[] args) {
        alike();
        apart();
        filed();
        known();
        missing();
        soon();
        newly();
        due.end("ApartTest");
    }

    private static DarkRing fresh(String house) {
        DarkRing x = new DarkRing();
        Due.house(x, house);
        return x;
    }

    /** Promise 43. */
    private static void alike() {
        DarkRing x = fresh(KEYS);
        due.is("alike(0)", x, x.alike(0), 1, 0);
        due.is("alike(1)", x, x.alike(1), 0, 0);
        due.is("alike(2)", x, x.alike(2), -1, 2);
        due.is("alike(-1)", x, x.alike(-1), -1, 2);
        x.lend(2, true);
        due.is("a lent one is like none", x, x.alike(0), 0, 0);
        x = fresh("key a;key b;key c;key d;ring r a b c d;");
        due.is("without features all are alike", x, x.alike(0), 6, 0);
    }

    /** Promise 44. */
    private static void apart() {
        DarkRing x = fresh(KEYS);
        due.is("not by all of them", x, x.apart(0, false), -1, 8);
        due.is("apart(2, false)", x, x.apart(2, false), -1, 2);
        due.is("apart(-1, true)", x, x.apart(-1, true), -1, 2);
        due.is("an empty ring", x, x.apart(1, true), 0, 0);
        x.lend(3, true);
        due.is("by both", x, x.apart(0, false), 3, 0);
        due.is("a turned is like b", x, x.apart(0, true), -1, 8);
        x.lend(1, true);
        due.is("by both, turned, too", x, x.apart(0, true), 3, 0);
        x.lend(4, true);
        due.is("by the first", x, x.apart(0, false), 1, 0);
        due.is("by the first, turned, too", x, x.apart(0, true), 1, 0);
        x.lend(2, true);
        due.is("one key alone", x, x.apart(0, true), 0, 0);
        x = fresh("feature f steps 2;feature g steps 2;feature h steps 3;key a 0 0 0;key b 0 1 1;key c 1 0 2;"
                + "ring r a b c;");
        due.is("one of them", x, x.apart(0, false), 4, 0);
        x = fresh("feature f steps 2;feature g steps 2;feature h steps 2;key a 0 0 0;key b 0 1 1;key c 1 0 0;"
                + "ring r a b c;");
        due.is("of two sets the least", x, x.apart(0, false), 3, 0);
        x = fresh("feature f steps 2 turned;feature g steps 2;key a 0 0;key b 1 1;ring r a b;");
        due.is("by the first", x, x.apart(0, false), 1, 0);
        due.is("turned, too, by the second", x, x.apart(0, true), 2, 0);
    }

    /** Promise 45. */
    private static void filed() {
        DarkRing x = fresh(KEYS);
        due.is("filed(0, 2)", x, x.filed(0, 2), 1, 0);
        due.is("filed(0, 9)", x, x.filed(0, 9), 1, 0);
        due.is("filed(0, 1)", x, x.filed(0, 1), -1, 5);
        due.is("filed(0, 10)", x, x.filed(0, 10), -1, 5);
        due.is("filed(1, 2)", x, x.filed(1, 2), 0, 0);
        due.is("filed(2, 1)", x, x.filed(2, 1), -1, 2);
        x = fresh("feature f steps 2;key a 0;key b 1;key c 0;key d 1;key e 0;ring r a b c d e;");
        due.is("three alike, two sorts", x, x.filed(0, 2), -1, 9);
        due.is("three alike, three sorts", x, x.filed(0, 3), 3, 0);
        x.lend(0, true);
        due.is("two and two alike", x, x.filed(0, 2), 2, 0);
        x = fresh("key a;key b;key c;key d;key e;key f;key g;key h;key i;key j;ring r a b c d e f g h i j;");
        due.is("ten alike", x, x.filed(0, 9), -1, 9);
        x.off(9);
        due.is("nine alike", x, x.filed(0, 9), 8, 0);
    }

    /** Promise 46. */
    private static void known() {
        String plain = "feature f steps 2;key a 0;key b 0;key c 1;key d 1;ring r a b c;ring q;";
        DarkRing x = fresh(plain);
        due.is("known(0, false)", x, x.known(0, false), 2, 0);
        due.is("met the other way round, too", x, x.known(0, true), -1, 8);
        due.is("known(1, false)", x, x.known(1, false), -1, 8);
        due.is("known(2, false)", x, x.known(2, false), -1, 2);
        due.is("known(-1, false)", x, x.known(-1, false), -1, 2);
        x = fresh(plain.replace("steps 2", "steps 2 turned"));
        due.is("known(0, false), turned", x, x.known(0, false), 2, 0);
        due.is("known(0, true), turned", x, x.known(0, true), 3, 0);
        x.lend(1, true);
        due.is("two are there", x, x.known(0, false), 1, 0);
        // As told 0 1 and 1 0; the other way round 0 1 turned, 1 0, and 1 0 turned, 0 1: the same.
        due.is("two are there, turned", x, x.known(0, true), -1, 8);
        x.lend(2, true);
        due.is("one is there", x, x.known(0, false), 1, 0);
        due.is("one is there, turned", x, x.known(0, true), 1, 0);
        x = fresh("feature f steps 3 turned;key a 1;ring r a;");
        due.is("one that is like itself turned", x, x.known(0, true), -1, 8);
        x = fresh("feature f steps 2;key a 0;key b 1;key c 0;key d 1;ring r a b c d;");
        due.is("not even n", x, x.known(0, false), -1, 8);
        x = fresh("feature f steps 2;key a 0;key b 0;key c 0;key d 1;ring r a b c d;");
        due.is("three of four", x, x.known(0, false), 3, 0);
    }

    private static final String DOORS = "key a;key b;key c;key d;key e;key f;ring r a b c d;ring q e;"
            + "door x wanted 1 by a e;door y wanted 1 by b c;door z wanted 1 by f;";

    /** Promise 47. */
    private static void missing() {
        DarkRing x = fresh(DOORS);
        long[][] due4 = {{1, 4}, {4, 13}, {2, 5}, {4, 7}, {1, 1}};
        for (int t = 0; t <= 4; t++) {
            due.is("missing(0, 0, 4, " + t + ")", x, x.missing(0, 0, 4, t), true, 0);
            due.fraction("missing(0, 0, 4, " + t + ")", x, due4[t][0], due4[t][1]);
        }
        due.is("missing(0, 0, 16, 0)", x, x.missing(0, 0, 16, 0), true, 0);
        due.fraction("surely lent", x, 1, 1);
        due.is("missing(0, 0, 0, 3)", x, x.missing(0, 0, 0, 3), true, 0);
        due.fraction("surely not lent", x, 0, 1);
        due.is("missing(0, 0, 0, 4)", x, x.missing(0, 0, 0, 4), false, 9);
        due.is("t above n", x, x.missing(0, 0, 4, 5), false, 5);
        due.is("t below 0", x, x.missing(0, 0, 4, -1), false, 5);
        due.is("lent 17", x, x.missing(0, 0, 17, 0), false, 5);
        due.is("lent -1", x, x.missing(0, 0, -1, 0), false, 5);
        due.is("no such key", x, x.missing(6, 0, 17, 0), false, 2);
        due.is("no such door", x, x.missing(0, 3, 17, 0), false, 2);
        due.is("not the only one", x, x.missing(1, 1, 4, 0), false, 9);
        due.is("none that opens it", x, x.missing(3, 0, 4, 0), false, 9);
        due.is("it lies about", x, x.missing(5, 2, 4, 0), false, 9);
        due.is("the only one on the other ring", x, x.missing(4, 0, 8, 0), true, 0);
        due.fraction("the only one on the other ring", x, 1, 2);
        x.lend(1, true);
        due.is("the other one is lent", x, x.missing(2, 1, 8, 2), true, 0);
        due.fraction("the other one is lent", x, 3, 4);
        due.is("it is lent", x, x.missing(1, 1, 8, 0), false, 9);
        due.is("t above how many are there", x, x.missing(2, 1, 8, 4), false, 5);
        due.fraction("as it was", x, 3, 4);
    }

    /** Promise 48. */
    private static void soon() {
        DarkRing x = fresh(DOORS);
        int[] sure4 = {-1, 0, 0, 0, 0, 2, 2, 3, 3, 3, 4, 4, 4, 4, 4, 4, 4};
        // 4/13 is less than 5/16, 2/5 at least 6/16, 4/7 at least 9/16.
        for (int sure = 1; sure <= 16; sure++) {
            due.is("soon(0, 0, 4, " + sure + ")", x, x.soon(0, 0, 4, sure), sure4[sure], 0);
        }
        due.is("surely lent", x, x.soon(0, 0, 16, 16), 0, 0);
        due.is("surely not lent", x, x.soon(0, 0, 0, 1), -1, 8);
        due.is("sure 0", x, x.soon(0, 0, 4, 0), -1, 5);
        due.is("sure 17", x, x.soon(0, 0, 4, 17), -1, 5);
        due.is("lent 17", x, x.soon(0, 0, 17, 1), -1, 5);
        due.is("lent -1", x, x.soon(0, 0, -1, 1), -1, 5);
        due.is("no such key", x, x.soon(6, 0, 0, 0), -1, 2);
        due.is("no such door", x, x.soon(0, -1, 0, 0), -1, 2);
        due.is("not the only one, ahead of 8", x, x.soon(1, 1, 0, 1), -1, 9);
        due.is("it lies about", x, x.soon(5, 2, 4, 1), -1, 9);
        x.lend(0, true);
        due.is("it is lent", x, x.soon(0, 0, 4, 1), -1, 9);
    }

    /** Promise 49: with 4 seconds a try and 1 to go on, so many tries are 5 times so many, less 1. */
    private static void newly() {
        String house = "key a;key b;key c;key d;key e;ring r c d e;ring q;door x wanted 0 by a c;door y wanted 9 by d;"
                + "door z wanted 9 by b;";
        DarkRing x = fresh(house);
        due.is("newly(0, 0, 0)", x, x.newly(0, 0, 0), 2, 0);
        due.fraction("newly(0, 0, 0)", x, 13, 2);
        due.is("another one opens", x, x.newly(0, 0, 1), 0, 0);
        due.fraction("another one opens", x, 23, 2);
        due.is("an empty ring", x, x.newly(0, 1, 0), 0, 0);
        due.fraction("an empty ring", x, 4, 1);
        due.is("none would open", x, x.newly(0, 0, 2), -1, 8);
        due.is("it is on a ring", x, x.newly(2, 0, 2), -1, 9);
        due.is("no such key", x, x.newly(5, 0, 0), -1, 2);
        due.is("no such ring", x, x.newly(2, 2, 0), -1, 2);
        due.is("no such door", x, x.newly(2, 0, 3), -1, 2);
        due.fraction("as it was", x, 4, 1);
        due.is("nothing is put", x, x.key(0, 0), -1, 8);
        x.lend(3, true);
        due.is("one is lent", x, x.newly(0, 0, 0), 0, 0);
        due.fraction("one is lent", x, 17, 3);
        x.lend(0, true);
        due.is("it is lent", x, x.newly(0, 0, 2), -1, 9);
        x = fresh("key a;key b;key c;key d;key e;key f;ring r b c d e f;door x wanted 1 by a b;");
        x.lend(2, true);
        due.is("the place among all", x, x.newly(0, 0, 0), 3, 0);
    }
}
