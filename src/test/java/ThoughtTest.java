/** Promises 25 to 34: what is thought of a ring that is held, and what acts are worth. */
public final class ThoughtTest {
    private static final Due due = new Due();
    private static final String HOUSE = "feature size steps 2 turned;feels size 12 4 0 16;key a 0;key b 1;key c 0;"
            + "key l 0;ring r a b c;ring q;door d wanted 1 by b;door n wanted 1 by l;turned 4;";

    public static void main(String[] args) {
        taken();
        felt();
        lentOnes();
        wrong();
        worth();
        toFeelFirst();
        due.end("ThoughtTest");
    }

    private static DarkRing fresh(String house) {
        DarkRing x = new DarkRing();
        Due.house(x, house);
        return x;
    }

    private static void parts(String what, DarkRing x, int... parts) {
        for (int i = 0; i < parts.length; i++) {
            due.is(what + ", part(" + i / 2 + ", " + i % 2 + ")", x, x.part(i / 2, i % 2), parts[i], 0);
        }
    }

    /** Promises 25, 26. */
    private static void taken() {
        DarkRing x = fresh(HOUSE);
        due.is("take(0)", x, x.take(0), true, 0);
        due.is("held", x, x.many(10), 0, 0);
        parts("take", x, 250001, 83333, 250000, 83333, 250000, 83333);
        due.is("part(3, 0)", x, x.part(3, 0), -1, 5);
        due.is("part(-1, 0)", x, x.part(-1, 0), -1, 5);
        due.is("part(0, 2)", x, x.part(0, 2), -1, 5);
        due.is("part(0, -1)", x, x.part(0, -1), -1, 5);
        x.feel(0, 0);
        due.is("take(0) again", x, x.take(0), true, 0);
        parts("as at first", x, 250001, 83333, 250000, 83333, 250000, 83333);
        x = fresh("key a;key b;key c;ring r a b c;turned 16;");
        x.take(0);
        parts("all turned", x, 0, 333334, 0, 333333, 0, 333333);
        x = fresh("key a;key b;key c;ring r a b c;turned 0;");
        x.take(0);
        parts("none turned", x, 333334, 0, 333333, 0, 333333, 0);
        x = fresh("key a;key b;key c;ring r a b c;");
        x.take(0);
        parts("half turned", x, 166670, 166666, 166666, 166666, 166666, 166666);
        x = fresh("key a;key b;key c;ring r a b c;turned 9;");
        x.take(0);
        parts("more turned", x, 145833, 187501, 145833, 187500, 145833, 187500);
    }

    /** Promises 27 to 32; each number is worked out by hand. */
    private static void felt() {
        DarkRing x = fresh(HOUSE);
        x.take(0);
        due.is("feel(0, 0)", x, x.feel(0, 0), true, 0);
        parts("feel", x, 428574, 0, 0, 142856, 428570, 0);
        due.is("goOn()", x, x.goOn(), true, 0);
        parts("goOn", x, 428570, 142856, 428574, 0, 0, 0);
        due.is("here(0)", x, x.here(0), true, 0);
        due.fraction("here(0)", x, 285713, 500000);
        due.is("here(2)", x, x.here(2), true, 0);
        due.fraction("here(2)", x, 0, 1);
        due.is("here(3), which lies about", x, x.here(3), true, 0);
        due.fraction("here(3)", x, 0, 1);
        due.is("opens(0)", x, x.opens(0), true, 0);
        due.fraction("opens(0)", x, 214287, 500000);
        due.is("opens(1)", x, x.opens(1), true, 0);
        due.fraction("opens(1)", x, 0, 1);
        due.is("tried(1, true)", x, x.tried(1, true), false, 9);
        due.is("tried(1, false)", x, x.tried(1, false), true, 0);
        parts("tried tells nothing", x, 428570, 142856, 428574, 0, 0, 0);
        due.is("tried(0, false)", x, x.tried(0, false), true, 0);
        parts("tried", x, 750001, 249999, 0, 0, 0, 0);
        due.is("tried(0, true)", x, x.tried(0, true), false, 9);
        parts("nothing changed", x, 750001, 249999, 0, 0, 0, 0);
        due.is("turn()", x, x.turn(), true, 0);
        parts("turn", x, 249999, 750001, 0, 0, 0, 0);
        x.goOn();
        parts("goOn both ways", x, 0, 0, 249999, 0, 0, 750001);
        due.is("feel(0, 1)", x, x.feel(0, 1), true, 0);
        parts("felt the same both ways", x, 0, 0, 249999, 0, 0, 750001);
        due.is("feel(0, 0)", x, x.feel(0, 0), false, 9);
        parts("it can't be", x, 0, 0, 249999, 0, 0, 750001);
        due.is("tried(0, true)", x, x.tried(0, true), true, 0);
        parts("it opened", x, 0, 0, 1000000, 0, 0, 0);
        due.is("here(1)", x, x.here(1), true, 0);
        due.fraction("here(1)", x, 1, 1);
    }

    private static void lentOnes() {
        DarkRing x = fresh(HOUSE);
        x.lend(1, true);
        due.is("take(0)", x, x.take(0), true, 0);
        parts("two are there", x, 375000, 125000, 375000, 125000);
        due.is("part(2, 0)", x, x.part(2, 0), -1, 5);
        due.is("opens(0)", x, x.opens(0), true, 0);
        due.fraction("by a lent one", x, 0, 1);
        due.is("here(2)", x, x.here(2), true, 0);
        due.fraction("here(2)", x, 1, 2);
        x.lend(0, true);
        x.take(0);
        parts("one is there", x, 750000, 250000);
        x.goOn();
        parts("on to itself", x, 750000, 250000);
        x.lend(2, true);
        due.is("none is there", x, x.take(0), false, 8);
    }

    private static void wrong() {
        DarkRing x = fresh(HOUSE);
        due.is("take(2)", x, x.take(2), false, 2);
        due.is("take(-1)", x, x.take(-1), false, 2);
        due.is("take(1)", x, x.take(1), false, 8);
        due.is("part(9, 9)", x, x.part(9, 9), -1, 8);
        due.is("feel(0, 0)", x, x.feel(0, 0), false, 8);
        due.is("feel(0, 2)", x, x.feel(0, 2), false, 2);
        due.is("feel(1, 0)", x, x.feel(1, 0), false, 2);
        due.is("feel(0, -1)", x, x.feel(0, -1), false, 2);
        due.is("goOn()", x, x.goOn(), false, 8);
        due.is("turn()", x, x.turn(), false, 8);
        due.is("tried(0, true)", x, x.tried(0, true), false, 8);
        due.is("tried(2, true)", x, x.tried(2, true), false, 2);
        due.is("here(0)", x, x.here(0), false, 8);
        due.is("here(4)", x, x.here(4), false, 2);
        due.is("opens(0)", x, x.opens(0), false, 8);
        due.is("opens(-1)", x, x.opens(-1), false, 2);
        due.is("worth(0, 1)", x, x.worth(0, 1), false, 8);
        due.is("worth(0, 5)", x, x.worth(0, 5), false, 5);
        due.is("worth(0, -1)", x, x.worth(0, -1), false, 5);
        due.is("worth(2, 5)", x, x.worth(2, 5), false, 2);
        due.is("next(0, 1)", x, x.next(0, 1), -1, 8);
        due.is("next(0, 0)", x, x.next(0, 0), -1, 5);
        due.is("next(0, 5)", x, x.next(0, 5), -1, 5);
        due.is("next(2, 0)", x, x.next(2, 0), -1, 2);
        due.fraction("none of these", x, 0, 1);
        x.take(0);
        x.opens(0);
        long top = x.top();
        x.worth(0, 5);
        due.is("the fraction stays", x.top(), top);
        due.is("take(1)", x, x.take(1), false, 8);
        due.is("held still", x, x.many(10), 0, 0);
    }

    /** Promises 33, 34, where to feel does not help. */
    private static void worth() {
        DarkRing x = fresh(HOUSE);
        x.take(0);
        x.feel(0, 0);
        x.goOn();
        x.tried(0, false);
        x.turn();
        x.goOn();
        long[] tops = {0, 249999, 750001, 1, 1};
        long[] bottoms = {1, 1000000, 1000000, 1, 1};
        int[] first = {-1, 0, 1, 0, 0};
        for (int k = 0; k <= 4; k++) {
            due.is("worth(0, " + k + ")", x, x.worth(0, k), true, 0);
            due.fraction("worth(0, " + k + ")", x, tops[k], bottoms[k]);
            if (k > 0) due.is("next(0, " + k + ")", x, x.next(0, k), first[k], 0);
        }
        due.is("worth(1, 4)", x, x.worth(1, 4), true, 0);
        due.fraction("what none there opens", x, 0, 1);
        due.is("next(1, 4)", x, x.next(1, 4), 0, 0);
        parts("nothing is done", x, 0, 0, 249999, 0, 0, 750001);
    }

    /** With four acts it is best to feel ahead of all: then three of four places are in reach, else two. */
    private static void toFeelFirst() {
        String house = "feature g steps 2;feature f steps 4;key a 0 0;key b 0 1;key c 0 2;key e 0 3;ring r a b c e;"
                + "door d wanted 1 by e;turned 0;";
        DarkRing x = fresh(house);
        x.take(0);
        due.is("worth(0, 3)", x, x.worth(0, 3), true, 0);
        due.fraction("worth(0, 3)", x, 1, 2);
        due.is("next(0, 3)", x, x.next(0, 3), 0, 0);
        due.is("worth(0, 4)", x, x.worth(0, 4), true, 0);
        due.fraction("worth(0, 4)", x, 3, 4);
        due.is("next(0, 4)", x, x.next(0, 4), 3, 0);
        // The first step tells as much as the others do.
        x = fresh(house.replace("key a 0 0;key b 0 1;key c 0 2;key e 0 3;", "key a 0 3;key b 0 2;key c 0 1;key e 0 0;"));
        x.take(0);
        due.is("worth(0, 4)", x, x.worth(0, 4), true, 0);
        due.fraction("worth(0, 4)", x, 3, 4);
        // With a thumb that feels b as c half of the time: of what is felt as c the c alone is searched for.
        x = fresh(house.replace("key a", "feels f 16 0 0 0 0 8 8 0 0 0 16 0 0 0 0 16;key a"));
        x.take(0);
        due.is("worth(0, 4)", x, x.worth(0, 4), true, 0);
        due.fraction("worth(0, 4)", x, 5, 8);
        due.is("next(0, 4)", x, x.next(0, 4), 3, 0);
    }
}
