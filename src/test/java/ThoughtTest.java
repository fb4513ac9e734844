/** Promises 25 to 34: what is thought of a ring that is held, and what acts are worth. */
public final class ThoughtTest {
    private static final Due due = new Due();
    private static final String HOUSE = "feature size steps 2 turned;feels size 12 4 0 16;key a 0;key b 1;key c 0;"
            + "key l 0;ring r a b c;ring q;door d wanted 1 by b;door n wanted 1 by l;turned 4;";

    public static void main(String[] args) {
        taken();
        sharedOut();
        felt();
        inARing();
        lentOnes();
        wrong();
        cannotBe();
        leastPart();
        tenPlaces();
        hereAndOpens();
        worth();
        worthOfNone();
        toFeelFirst();
        fromEachPlace();
        theOtherWayRound();
        eachMayBe();
        nextAlone();
        due.end("ThoughtTest");
    }

    private static DarkRing fresh(String house) {
        DarkRing x = new DarkRing();
        Due.house(x, house);
        return x;
    }

    private static void parts(String what, DarkRing x, int... parts) {
        for (int i = 0; i < parts.length; i++) {
            due.is(what + ", part(" + i / 2 + ", " + i % 2 + ")", x, x.part(i / 2, i % 2), parts[i], 0);
        }
    }

    /** Promises 25, 26. */
    private static void taken() {
        DarkRing x = fresh(HOUSE);
        due.is("take(0)", x, x.take(0), true, 0);
        due.is("held", x, x.many(10), 0, 0);
        parts("take", x, 250001, 83333, 250000, 83333, 250000, 83333);
        due.is("part(3, 0)", x, x.part(3, 0), -1, 5);
        due.is("part(-1, 0)", x, x.part(-1, 0), -1, 5);
        due.is("part(0, 2)", x, x.part(0, 2), -1, 5);
        due.is("part(0, -1)", x, x.part(0, -1), -1, 5);
        x.feel(0, 0);
        due.is("take(0) again", x, x.take(0), true, 0);
        parts("as at first", x, 250001, 83333, 250000, 83333, 250000, 83333);
        x = fresh("key a;key b;key c;ring r a b c;turned 16;");
        x.take(0);
        parts("all turned", x, 0, 333334, 0, 333333, 0, 333333);
        x = fresh("key a;key b;key c;ring r a b c;turned 0;");
        x.take(0);
        parts("none turned", x, 333334, 0, 333333, 0, 333333, 0);
        x = fresh("key a;key b;key c;ring r a b c;");
        x.take(0);
        parts("half turned", x, 166670, 166666, 166666, 166666, 166666, 166666);
        x = fresh("key a;key b;key c;ring r a b c;turned 9;");
        x.take(0);
        parts("more turned", x, 145833, 187501, 145833, 187500, 145833, 187500);
    }

    /**
     * Promise 25: of each number of PLACES and each TURNED the parts are rounded down, what lacks comes to the greatest
     * weight: of several the least PLACE, then way 0.
     */
    private static void sharedOut() {
        String keys = "";
        String on = "";
        for (int n = 1; n <= 10; n++) {
            keys += "key " + (char) ('a' + n) + ";";
            on += " " + (char) ('a' + n);
            for (int turned = 0; turned <= 16; turned++) {
                DarkRing x = fresh(keys + "ring r" + on + ";turned " + turned + ";");
                due.is("take(0)", x, x.take(0), true, 0);
                int one = (16 - turned) * 1000000 / (16 * n);
                int other = turned * 1000000 / (16 * n);
                int lacks = 1000000 - n * (one + other);
                for (int place = 0; place < n; place++) {
                    boolean isFirst = place == 0;
                    due.is("way 0", x.part(place, 0), one + (isFirst && turned <= 8 ? lacks : 0));
                    due.is("way 1", x.part(place, 1), other + (isFirst && turned > 8 ? lacks : 0));
                }
                due.is("no more places", x, x.part(n, 0), -1, 5);
            }
        }
        // Of two greatest weights at other places the first one gets what lacks: of 3, 7, 7 sixteenths.
        DarkRing x = fresh("feature f steps 3;feels f 3 13 0 7 9 0 7 9 0;key a 0;key b 1;key c 2;ring r a b c;turned 0;");
        x.take(0);
        x.feel(0, 0);
        parts("3, 7, 7", x, 176471, 0, 411765, 0, 411764, 0);
        x.take(0);
        x.feel(0, 1);
        parts("13, 9, 9", x, 419356, 0, 290322, 0, 290322, 0);
    }

    /** Promises 28, 29: on from the last PLACE to the first, back from the first to the last; n times is as it was. */
    private static void inARing() {
        DarkRing x = fresh("feature f steps 4;key a 0;key b 1;key c 2;key d 3;ring r a b c d;turned 4;");
        x.take(0);
        x.feel(0, 3);
        parts("at the last place", x, 0, 0, 0, 0, 0, 0, 750000, 250000);
        due.is("goOn()", x, x.goOn(), true, 0);
        parts("way 0 from the last to the first", x, 750000, 0, 0, 0, 0, 250000, 0, 0);
        x.goOn();
        parts("two", x, 0, 0, 750000, 250000, 0, 0, 0, 0);
        x.goOn();
        parts("way 1 from the first ..", x, 0, 250000, 0, 0, 750000, 0, 0, 0);
        x.goOn();
        parts(".. to the last", x, 0, 0, 0, 0, 0, 0, 750000, 250000);
        x.goOn();
        due.is("turn()", x, x.turn(), true, 0);
        parts("turned where one is", x, 0, 750000, 0, 0, 250000, 0, 0, 0);
        x.goOn();
        parts("way 1 from the first to the last", x, 0, 0, 0, 0, 0, 0, 250000, 750000);
        x.turn();
        x.turn();
        parts("twice is as it was", x, 0, 0, 0, 0, 0, 0, 250000, 750000);
        x = fresh("key a;key b;ring r a b;door d wanted 1 by a;turned 4;");
        x.take(0);
        x.tried(0, true);
        x.goOn();
        parts("two places, either way", x, 0, 0, 750000, 250000);
        x = fresh("key a;ring r a;turned 4;");
        x.take(0);
        x.goOn();
        parts("one place", x, 750000, 250000);
        x.turn();
        x.goOn();
        parts("one place, turned", x, 250000, 750000);
    }

    /** Promises 27, 30: 9 just if all weights are 0; then all is as it was. */
    private static void cannotBe() {
        DarkRing x = fresh("feature f steps 2;feels f 15 1 16 0;feature g steps 2;key a 0 0;key b 1 0;ring r a b;"
                + "door d wanted 1 by a;door e wanted 1 by a b;turned 0;");
        x.take(0);
        due.is("feel(1, 1)", x, x.feel(1, 1), false, 9);
        parts("as at first", x, 500000, 0, 500000, 0);
        due.is("feel(1, 0)", x, x.feel(1, 0), true, 0);
        parts("it tells nothing", x, 500000, 0, 500000, 0);
        due.is("feel(0, 1), by one sixteenth", x, x.feel(0, 1), true, 0);
        parts("it tells all", x, 1000000, 0, 0, 0);
        due.is("tried(0, false)", x, x.tried(0, false), false, 9);
        due.is("tried(1, false)", x, x.tried(1, false), false, 9);
        parts("as it was", x, 1000000, 0, 0, 0);
        due.is("tried(1, true)", x, x.tried(1, true), true, 0);
        x.goOn();
        due.is("feel(0, 1) of the other one", x, x.feel(0, 1), false, 9);
        due.is("tried(0, true)", x, x.tried(0, true), false, 9);
        parts("as it was", x, 0, 0, 1000000, 0);
        due.is("tried(0, false)", x, x.tried(0, false), true, 0);
        due.is("held still", x, x.many(10), 0, 0);
    }

    /** Promises 27, 30: a part of 1 by 1,000,000 is enough, none is not; each is 15th of the one ahead, rounded down. */
    private static void leastPart() {
        String house = "feature f steps 2;feels f 15 1 1 15;feature g steps 2;key a 0 0;key b 1 1;ring r a b;"
                + "door d wanted 1 by b;turned 0;";
        int[] left = {500000, 62500, 4424, 296, 19, 1, 0};
        for (int times = 0; times <= 6; times++) {
            for (int i = 0; i < 3; i++) {
                DarkRing x = fresh(house);
                x.take(0);
                for (int k = 0; k < times; k++) due.is("feel(0, 0)", x, x.feel(0, 0), true, 0);
                parts("felt so often", x, 1000000 - left[times], 0, left[times], 0);
                boolean is = i == 0 ? x.tried(0, true) : i == 1 ? x.feel(1, 1) : x.tried(0, false);
                boolean can = i == 2 || times < 6;
                due.is("the least part", x, is, can, can ? 0 : 9);
                boolean isHere = can && i < 2;
                int first = isHere ? 0 : 1000000;
                parts("behind it", x, first, 0, 1000000 - first, 0);
            }
        }
    }

    /** Promises 25 to 32 on a RING of all ten KEYS: its last PLACE, and round it. */
    private static void tenPlaces() {
        String house = "feature f steps 2 turned;";
        for (int k = 0; k < 10; k++) house += "key k" + (char) ('a' + k) + " " + k / 9 + ";";
        house += "ring r ka kb kc kd ke kf kg kh ki kj;door d wanted 1 by kj;turned 4;";
        DarkRing x = fresh(house);
        due.is("take(0)", x, x.take(0), true, 0);
        due.is("feel(0, 1)", x, x.feel(0, 1), true, 0);
        // Way 1 at nine PLACES 25,000 each, way 0 at the last one 75,000, of 300,000; three parts lack.
        for (int place = 0; place < 10; place++) {
            due.is("way 0", x, x.part(place, 0), place == 9 ? 250003 : 0, 0);
            due.is("way 1", x, x.part(place, 1), place == 9 ? 0 : 83333, 0);
        }
        due.is("goOn()", x, x.goOn(), true, 0);
        due.is("way 0, round it", x, x.part(0, 0), 250003, 0);
        due.is("way 1, round it", x, x.part(9, 1), 83333, 0);
        due.is("way 1, from the last place back", x, x.part(8, 1), 0, 0);
        due.is("tried(0, false)", x, x.tried(0, false), true, 0);
        due.is("none at the last place", x, x.part(9, 1), 0, 0);
        // 272,730 of it, and eight times 90,908: six parts lack.
        due.is("way 0 at the first place", x, x.part(0, 0), 272736, 0);
        due.is("turn()", x, x.turn(), true, 0);
        due.is("turned", x, x.part(0, 1), 272736, 0);
        due.is("goOn()", x, x.goOn(), true, 0);
        due.is("back from the first place to the last", x, x.part(9, 1), 272736, 0);
        due.is("tried(0, true)", x, x.tried(0, true), true, 0);
        due.is("here(9)", x, x.here(9), true, 0);
        due.fraction("here(9)", x, 1, 1);
        due.is("worth(0, 4)", x, x.worth(0, 4), true, 0);
        due.fraction("worth(0, 4)", x, 1, 1);
        due.is("next(0, 4)", x, x.next(0, 4), 0, 0);
    }

    /**
     * Each PLACE and way may be, whatever is felt: of what is felt as e 14 of 64 are found (try, go, try), as b 13 (go,
     * go, try: either way), as a and as c 8 each (try, go, try).
     */
    private static void eachMayBe() {
        DarkRing x = fresh("feature f steps 4;feels f 13 1 1 1 1 13 1 1 1 1 13 1 1 1 1 13;key a 0;key b 1;key c 2;key e 3;"
                + "ring r a b c e;door d wanted 1 by e;turned 8;");
        x.take(0);
        due.is("worth(0, 4)", x, x.worth(0, 4), true, 0);
        due.fraction("worth(0, 4)", x, 43, 64);
        due.is("next(0, 4)", x, x.next(0, 4), 2, 0);
        due.is("worth(0, 3)", x, x.worth(0, 3), true, 0);
        due.fraction("worth(0, 3)", x, 1, 2);
        due.is("next(0, 3)", x, x.next(0, 3), 0, 0);
    }

    /** Promises 31, 32: from 0 to all; a KEY of another RING, a LENT one, one that lies about are not there. */
    private static void hereAndOpens() {
        DarkRing x = fresh("key a;key b;key c;key d;key e;ring r a b c;ring q d;door u wanted 0 by a b c;"
                + "door v wanted 1 by a d;door w wanted 1 by d e;turned 8;");
        x.take(0);
        due.is("here(0)", x, x.here(0), true, 0);
        due.fraction("166670 and 166666", x, 41667, 125000);
        due.is("here(2)", x, x.here(2), true, 0);
        due.fraction("166666 and 166666", x, 83333, 250000);
        due.is("here(3), of another ring", x, x.here(3), true, 0);
        due.fraction("here(3)", x, 0, 1);
        due.is("here(4), that lies about", x, x.here(4), true, 0);
        due.fraction("here(4)", x, 0, 1);
        due.is("opens(0), by all", x, x.opens(0), true, 0);
        due.fraction("opens(0)", x, 1, 1);
        due.is("opens(1), by one of it", x, x.opens(1), true, 0);
        due.fraction("opens(1)", x, 41667, 125000);
        due.is("opens(2), by none of it", x, x.opens(2), true, 0);
        due.fraction("opens(2)", x, 0, 1);
        x.tried(1, true);
        x.here(0);
        due.fraction("here(0), surely", x, 1, 1);
        x.lend(0, true);
        x.take(0);
        due.is("here(0), lent", x, x.here(0), true, 0);
        due.fraction("here(0), lent", x, 0, 1);
        x.opens(0);
        due.fraction("opens(0), by those that are there", x, 1, 1);
        x.opens(1);
        due.fraction("opens(1), by a lent one", x, 0, 1);
    }

    /** Promises 33, 34: k from 0 to 4, a DOOR that no KEY there opens, one that each opens. */
    private static void worthOfNone() {
        DarkRing x = fresh("feature f steps 2;key a 0;key b 0;key c 0;key d 0;key e 1;ring r a b c d;door u wanted 0 by e;"
                + "door v wanted 0 by a b c d;door w wanted 0 by d;turned 8;");
        x.take(0);
        for (int k = 0; k <= 4; k++) {
            due.is("worth(0, " + k + ")", x, x.worth(0, k), true, 0);
            due.fraction("worth(0, " + k + ")", x, 0, 1);
            due.is("worth(1, " + k + ")", x, x.worth(1, k), true, 0);
            due.fraction("worth(1, " + k + ")", x, k > 0 ? 1 : 0, 1);
            int[] quarters = {0, 1, 1, 2, 2};
            due.is("worth(2, " + k + ")", x, x.worth(2, k), true, 0);
            due.fraction("worth(2, " + k + ")", x, quarters[k] == 0 ? 0 : 1, quarters[k] == 0 ? 1 : 4 / quarters[k]);
            if (k == 0) continue;
            due.is("next(0, " + k + "), of several the least", x, x.next(0, k), 0, 0);
            due.is("next(1, " + k + ")", x, x.next(1, k), 0, 0);
            due.is("next(2, " + k + ")", x, x.next(2, k), 0, 0);
        }
        due.is("worth(0, 5)", x, x.worth(0, 5), false, 5);
        due.is("worth(0, -1)", x, x.worth(0, -1), false, 5);
        due.is("next(0, 5)", x, x.next(0, 5), -1, 5);
        due.is("next(0, 0)", x, x.next(0, 0), -1, 5);
        parts("nothing is done", x, 125000, 125000, 125000, 125000, 125000, 125000, 125000, 125000);
    }

    /**
     * The ring is held the other way round: e is met as STEP 0, b as 2. If 0 is felt as 2 half of the time, of what is
     * felt as 2 the b alone is searched for; held as told, a would be felt so, which is out of reach.
     */
    private static void theOtherWayRound() {
        String house = "feature f steps 4 turned;feels f 8 0 8 0 0 16 0 0 0 0 16 0 0 0 0 16;key a 0;key b 1;key c 2;key e 3;"
                + "ring r e c b a;door d wanted 1 by e;turned 16;";
        DarkRing x = fresh(house);
        x.take(0);
        due.is("worth(0, 4)", x, x.worth(0, 4), true, 0);
        due.fraction("the other way round", x, 5, 8);
        due.is("next(0, 4)", x, x.next(0, 4), 2, 0);
        x = fresh(house.replace("turned 16", "turned 0").replace("e c b a", "a b c e"));
        x.take(0);
        due.is("worth(0, 4)", x, x.worth(0, 4), true, 0);
        due.fraction("as told", x, 3, 4);
        due.is("next(0, 4)", x, x.next(0, 4), 2, 0);
    }

    /** Promises 27 to 32; each number is worked out by hand. */
    private static void felt() {
        DarkRing x = fresh(HOUSE);
        x.take(0);
        due.is("feel(0, 0)", x, x.feel(0, 0), true, 0);
        parts("feel", x, 428574, 0, 0, 142856, 428570, 0);
        due.is("goOn()", x, x.goOn(), true, 0);
        parts("goOn", x, 428570, 142856, 428574, 0, 0, 0);
        due.is("here(0)", x, x.here(0), true, 0);
        due.fraction("here(0)", x, 285713, 500000);
        due.is("here(2)", x, x.here(2), true, 0);
        due.fraction("here(2)", x, 0, 1);
        due.is("here(3), which lies about", x, x.here(3), true, 0);
        due.fraction("here(3)", x, 0, 1);
        due.is("opens(0)", x, x.opens(0), true, 0);
        due.fraction("opens(0)", x, 214287, 500000);
        due.is("opens(1)", x, x.opens(1), true, 0);
        due.fraction("opens(1)", x, 0, 1);
        due.is("tried(1, true)", x, x.tried(1, true), false, 9);
        due.is("tried(1, false)", x, x.tried(1, false), true, 0);
        parts("tried tells nothing", x, 428570, 142856, 428574, 0, 0, 0);
        due.is("tried(0, false)", x, x.tried(0, false), true, 0);
        parts("tried", x, 750001, 249999, 0, 0, 0, 0);
        due.is("tried(0, true)", x, x.tried(0, true), false, 9);
        parts("nothing changed", x, 750001, 249999, 0, 0, 0, 0);
        due.is("turn()", x, x.turn(), true, 0);
        parts("turn", x, 249999, 750001, 0, 0, 0, 0);
        x.goOn();
        parts("goOn both ways", x, 0, 0, 249999, 0, 0, 750001);
        due.is("feel(0, 1)", x, x.feel(0, 1), true, 0);
        parts("felt the same both ways", x, 0, 0, 249999, 0, 0, 750001);
        due.is("feel(0, 0)", x, x.feel(0, 0), false, 9);
        parts("it can't be", x, 0, 0, 249999, 0, 0, 750001);
        due.is("tried(0, true)", x, x.tried(0, true), true, 0);
        parts("it opened", x, 0, 0, 1000000, 0, 0, 0);
        due.is("here(1)", x, x.here(1), true, 0);
        due.fraction("here(1)", x, 1, 1);
    }

    private static void lentOnes() {
        DarkRing x = fresh(HOUSE);
        x.lend(1, true);
        due.is("take(0)", x, x.take(0), true, 0);
        parts("two are there", x, 375000, 125000, 375000, 125000);
        due.is("part(2, 0)", x, x.part(2, 0), -1, 5);
        due.is("opens(0)", x, x.opens(0), true, 0);
        due.fraction("by a lent one", x, 0, 1);
        due.is("here(2)", x, x.here(2), true, 0);
        due.fraction("here(2)", x, 1, 2);
        x.lend(0, true);
        x.take(0);
        parts("one is there", x, 750000, 250000);
        x.goOn();
        parts("on to itself", x, 750000, 250000);
        x.lend(2, true);
        due.is("none is there", x, x.take(0), false, 8);
    }

    private static void wrong() {
        DarkRing x = fresh(HOUSE);
        due.is("take(2)", x, x.take(2), false, 2);
        due.is("take(-1)", x, x.take(-1), false, 2);
        due.is("take(1)", x, x.take(1), false, 8);
        due.is("part(9, 9)", x, x.part(9, 9), -1, 8);
        due.is("feel(0, 0)", x, x.feel(0, 0), false, 8);
        due.is("feel(0, 2)", x, x.feel(0, 2), false, 2);
        due.is("feel(1, 0)", x, x.feel(1, 0), false, 2);
        due.is("feel(0, -1)", x, x.feel(0, -1), false, 2);
        due.is("goOn()", x, x.goOn(), false, 8);
        due.is("turn()", x, x.turn(), false, 8);
        due.is("tried(0, true)", x, x.tried(0, true), false, 8);
        due.is("tried(2, true)", x, x.tried(2, true), false, 2);
        due.is("here(0)", x, x.here(0), false, 8);
        due.is("here(4)", x, x.here(4), false, 2);
        due.is("opens(0)", x, x.opens(0), false, 8);
        due.is("opens(-1)", x, x.opens(-1), false, 2);
        due.is("worth(0, 1)", x, x.worth(0, 1), false, 8);
        due.is("worth(0, 5)", x, x.worth(0, 5), false, 5);
        due.is("worth(0, -1)", x, x.worth(0, -1), false, 5);
        due.is("worth(2, 5)", x, x.worth(2, 5), false, 2);
        due.is("next(0, 1)", x, x.next(0, 1), -1, 8);
        due.is("next(0, 0)", x, x.next(0, 0), -1, 5);
        due.is("next(0, 5)", x, x.next(0, 5), -1, 5);
        due.is("next(2, 0)", x, x.next(2, 0), -1, 2);
        due.fraction("none of these", x, 0, 1);
        x.take(0);
        x.opens(0);
        long top = x.top();
        x.worth(0, 5);
        due.is("the fraction stays", x.top(), top);
        due.is("take(1)", x, x.take(1), false, 8);
        due.is("held still", x, x.many(10), 0, 0);
    }

    /** Promises 33, 34, where to feel does not help. */
    private static void worth() {
        DarkRing x = fresh(HOUSE);
        x.take(0);
        x.feel(0, 0);
        x.goOn();
        x.tried(0, false);
        x.turn();
        x.goOn();
        long[] tops = {0, 249999, 750001, 1, 1};
        long[] bottoms = {1, 1000000, 1000000, 1, 1};
        int[] first = {-1, 0, 1, 0, 0};
        for (int k = 0; k <= 4; k++) {
            due.is("worth(0, " + k + ")", x, x.worth(0, k), true, 0);
            due.fraction("worth(0, " + k + ")", x, tops[k], bottoms[k]);
            if (k > 0) due.is("next(0, " + k + ")", x, x.next(0, k), first[k], 0);
        }
        due.is("worth(1, 4)", x, x.worth(1, 4), true, 0);
        due.fraction("what none there opens", x, 0, 1);
        due.is("next(1, 4)", x, x.next(1, 4), 0, 0);
        parts("nothing is done", x, 0, 0, 249999, 0, 0, 750001);
    }

    /** With four acts it is best to feel ahead of all: then three of four places are in reach, else two. */
    private static void toFeelFirst() {
        String house = "feature g steps 2;feature f steps 4;key a 0 0;key b 0 1;key c 0 2;key e 0 3;ring r a b c e;"
                + "door d wanted 1 by e;turned 0;";
        DarkRing x = fresh(house);
        x.take(0);
        due.is("worth(0, 3)", x, x.worth(0, 3), true, 0);
        due.fraction("worth(0, 3)", x, 1, 2);
        due.is("next(0, 3)", x, x.next(0, 3), 0, 0);
        due.is("worth(0, 4)", x, x.worth(0, 4), true, 0);
        due.fraction("worth(0, 4)", x, 3, 4);
        due.is("next(0, 4)", x, x.next(0, 4), 3, 0);
        // The first step tells as much as the others do.
        x = fresh(house.replace("key a 0 0;key b 0 1;key c 0 2;key e 0 3;", "key a 0 3;key b 0 2;key c 0 1;key e 0 0;"));
        x.take(0);
        due.is("worth(0, 4)", x, x.worth(0, 4), true, 0);
        due.fraction("worth(0, 4)", x, 3, 4);
        // With a thumb that feels b as c half of the time: of what is felt as c the c alone is searched for.
        x = fresh(house.replace("key a", "feels f 16 0 0 0 0 8 8 0 0 0 16 0 0 0 0 16;key a"));
        x.take(0);
        due.is("worth(0, 4)", x, x.worth(0, 4), true, 0);
        due.fraction("worth(0, 4)", x, 5, 8);
        due.is("next(0, 4)", x, x.next(0, 4), 3, 0);
    }

    /** Promise 34: of so many ACTS for that DOOR, whatever was asked ahead; it tells no FRACTION. */
    private static void nextAlone() {
        String house = "feature g steps 2;feature f steps 4;key a 0 0;key b 0 1;key c 0 2;key e 0 3;ring r a b c e;"
                + "key z 0 0;door d wanted 1 by e;door o wanted 1 by a b c e;door n wanted 1 by z;turned 0;";
        int[] first = {0, 0, 0, 3};
        for (int k = 1; k <= 4; k++) {
            DarkRing x = fresh(house);
            x.take(0);
            due.is("next(0, " + k + "), the first call", x, x.next(0, k), first[k - 1], 0);
            due.fraction("next tells none", x, 0, 1);
            x.worth(1, 4);
            due.is("next(0, " + k + "), behind another door's", x, x.next(0, k), first[k - 1], 0);
            due.fraction("that of worth()", x, 1, 1);
            x.worth(0, 5 - k);
            due.is("next(2, " + k + "), of none", x, x.next(2, k), 0, 0);
            x.next(0, 4);
            due.is("worth(2, " + k + ")", x, x.worth(2, k), true, 0);
            due.fraction("worth(2, " + k + ")", x, 0, 1);
            due.is("next(0, 4)", x, x.next(0, 4), 3, 0);
        }
        // To go on first: surely the next one opens.
        DarkRing x = fresh(house);
        x.take(0);
        x.feel(1, 2);
        int[] onTo = {0, 1, 0, 0};
        long[] tops = {0, 1, 1, 1};
        for (int k = 1; k <= 4; k++) {
            due.is("next(0, " + k + "), one on", x, x.next(0, k), onTo[k - 1], 0);
            due.is("worth(0, " + k + "), one on", x, x.worth(0, k), true, 0);
            due.fraction("worth(0, " + k + "), one on", x, tops[k - 1], 1);
        }
    }

    /** The same ring told from each of its PLACES on, either way: three of four places are in reach. */
    private static void fromEachPlace() {
        String[] rings = {"a b c e", "e a b c", "c e a b", "b c e a"};
        for (String ring : rings) {
            for (int turned = 0; turned <= 16; turned += 16) {
                String house = "feature f steps 4;key a 0;key b 1;key c 2;key e 3;ring r " + ring + ";door d wanted 1 by e;"
                        + "turned " + turned + ";";
                DarkRing x = fresh(house);
                x.take(0);
                due.is("worth(0, 4)", x, x.worth(0, 4), true, 0);
                due.fraction(ring, x, 3, 4);
                due.is("next(0, 4)", x, x.next(0, 4), 2, 0);
                due.is("worth(0, 3)", x, x.worth(0, 3), true, 0);
                due.fraction(ring, x, 1, 2);
                due.is("next(0, 3)", x, x.next(0, 3), 0, 0);
            }
        }
    }
}
