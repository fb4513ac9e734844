import java.util.List;

/** Promises 53, 54: marks, and what is taken back to them. */
public final class MarksTest {
    private static final Due due = new Due();
    private static final String HOUSE = "feature f steps 2;key a 0;key b 1;key c 0;ring r a b;ring q c;"
            + "door d wanted 1 by b;turned 0;";

    public static void main(String[] args) {
        counted();
        threeAtOnce();
        takenBack();
        takenBackWhole();
        eachAlone();
        heldAndThought();
        whatStays();
        refusedOnes();
        due.end("MarksTest");
    }

    private static void counted() {
        DarkRing x = new DarkRing();
        due.is("back()", x, x.back(), -1, 8);
        due.is("mark()", x, x.mark(), 1, 0);
        due.is("mark()", x, x.mark(), 2, 0);
        due.is("mark()", x, x.mark(), 3, 0);
        due.is("one too many", x, x.mark(), -1, 7);
        due.is("back()", x, x.back(), 2, 0);
        due.is("mark()", x, x.mark(), 3, 0);
        due.is("back()", x, x.back(), 2, 0);
        due.is("back()", x, x.back(), 1, 0);
        due.is("back()", x, x.back(), 0, 0);
        due.is("back()", x, x.back(), -1, 8);
    }

    /** Promises 53, 54: at most three, the latest one first, each gone when it is taken back to. */
    private static void threeAtOnce() {
        String[] houses = {"key a;", "key a;key b;", "key a;key b;key c;", "key a;key b;key c;key d;"};
        DarkRing x = new DarkRing();
        for (int i = 0; i < 3; i++) {
            Due.house(x, houses[i]);
            due.is("mark()", x, x.mark(), i + 1, 0);
        }
        Due.house(x, houses[3]);
        due.is("a fourth", x, x.mark(), -1, 7);
        due.is("a fifth", x, x.mark(), -1, 7);
        due.is("nothing is taken back", x, x.many(1), 4, 0);
        for (int i = 2; i >= 0; i--) {
            due.is("back()", x, x.back(), i, 0);
            due.is("the house of mark " + i, x, x.many(1), i + 1, 0);
            if (i == 1) {
                due.is("a mark in place of the one that is gone", x, x.mark(), 2, 0);
                Due.house(x, houses[3]);
                due.is("back to it", x, x.back(), 1, 0);
                due.is("its house", x, x.many(1), 2, 0);
            }
        }
        due.is("back()", x, x.back(), -1, 8);
        due.is("as it was", x, x.many(1), 1, 0);
        due.is("the same state twice", x, x.mark(), 1, 0);
        due.is("the same state twice", x, x.mark(), 2, 0);
        x.house(0);
        due.is("back()", x, x.back(), 1, 0);
        due.is("back()", x, x.back(), 0, 0);
        due.is("as it was", x, x.many(1), 1, 0);
        x = new DarkRing();
        x.mark();
        Due.house(x, houses[3]);
        due.is("back to a new object's", x, x.back(), 0, 0);
        due.is("no key", x, x.many(1), 0, 0);
        due.is("no one held", x, x.goOn(), false, 8);
    }

    private static final String WHOLE = "feature f steps 3 turned;feature g steps 2;feels g 12 4 3 13;key a 0 0;key b 1 1;"
            + "key c 2 0;key d 0 1;key e 1 0;ring r c a b;ring q d;door x wanted 3 by a d;door y wanted 1 by c;"
            + "seconds feel 9 try 8 go 7 drop 6;turned 3;round y x y;";

    /** All that can be seen is as it was, whatever was done since. */
    private static void takenBackWhole() {
        DarkRing x = new DarkRing();
        Due.house(x, WHOLE);
        Due.rule(x, "feel f;try;");
        x.lend(3, true);
        x.off(2);
        x.put(4, 0, 1);
        x.put(2, 1, 0);
        x.take(0);
        x.feel(1, 1);
        x.goOn();
        List<String> before = Seen.now(x);
        due.is("mark()", x, x.mark(), 1, 0);
        due.is("a mark changes nothing", Seen.difference(before, Seen.now(x)).isEmpty(), true);
        x.off(4);
        x.lend(3, false);
        x.put(4, 1, 2);
        x.take(1);
        x.tried(0, true);
        due.is("mark()", x, x.mark(), 2, 0);
        List<String> second = Seen.now(x);
        Due.house(x, "feature f steps 2;feature h steps 4 turned;feature g steps 3;feels f 0 16 16 0;key u 1 3 2;key v 0 0 0;"
                + "ring s v u;ring t;ring w;door o wanted 99 by u v;turned 16;seconds feel 1 try 1 go 1 drop 1;round o o;");
        x.take(0);
        x.lend(0, true);
        Due.rule(x, "go;");
        due.is("back()", x, x.back(), 1, 0);
        String difference = Seen.difference(second, Seen.now(x));
        due.is("all is as it was at the second: " + difference, difference.isEmpty(), true);
        x.turn();
        x.lend(0, true);
        due.is("back()", x, x.back(), 0, 0);
        difference = Seen.difference(before, Seen.now(x));
        due.is("all is as it was at the first: " + difference, difference.isEmpty(), true);
        due.is("the rule", x, x.play(0, 0, 0) >= 0, true, 0);
        due.is("its feeling", x, x.played(2), 1, 0);
    }

    /** Each thing that a MARK keeps, changed alone. */
    private static void eachAlone() {
        for (int i = 0; i < 11; i++) {
            DarkRing x = new DarkRing();
            Due.house(x, WHOLE);
            x.lend(4, true);
            x.take(0);
            x.feel(1, 0);
            x.tray(0, 0, 2);
            x.write(0, 0, 2);
            x.write(0, 1, 0);
            x.tray(1, 0, 3);
            x.write(1, 1, 1);
            x.write(1, 2, 2);
            List<String> before = Seen.now(x);
            x.mark();
            boolean is = true;
            if (i == 0) is = x.lay(0, 1);
            if (i == 1) is = x.lend(0, true);
            if (i == 2) is = x.lend(4, false);
            if (i == 3) is = x.put(4, 0, 3);
            if (i == 4) is = x.off(3);
            if (i == 5) is = x.take(1);
            if (i == 6) is = x.feel(0, 0);
            if (i == 7) is = x.goOn();
            if (i == 8) is = x.turn();
            if (i == 9) is = x.tried(0, true);
            if (i == 10) is = x.house(0) == 0;
            due.is("change " + i, x, is, true, 0);
            due.is("change " + i + " is seen", Seen.difference(before, Seen.now(x)).isEmpty(), false);
            due.is("back()", x, x.back(), 0, 0);
            if (i == 10) continue;
            String difference = Seen.difference(before, Seen.now(x));
            due.is("change " + i + " is taken back: " + difference, difference.isEmpty(), true);
        }
    }

    /** Rings of 1, 3 and 2 PLACES, each with parts of its own; none HELD. */
    private static void heldAndThought() {
        DarkRing x = new DarkRing();
        Due.house(x, "key a;key b;key c;key d;key e;key g;ring r a;ring q b c d;ring p e g;door x wanted 1 by a c g;turned 4;");
        x.mark();
        x.take(1);
        x.tried(0, true);
        x.mark();
        x.take(0);
        x.turn();
        x.mark();
        x.take(2);
        x.tried(0, false);
        due.is("back()", x, x.back(), 2, 0);
        due.is("the ring of one", x, x.many(10), 0, 0);
        due.is("part(0, 0)", x, x.part(0, 0), 250000, 0);
        due.is("part(0, 1)", x, x.part(0, 1), 750000, 0);
        due.is("part(1, 0)", x, x.part(1, 0), -1, 5);
        due.is("here(0)", x, x.here(0), true, 0);
        due.fraction("here(0)", x, 1, 1);
        due.is("back()", x, x.back(), 1, 0);
        due.is("the ring of three", x, x.many(10), 1, 0);
        int[] parts = {0, 0, 750001, 249999, 0, 0};
        for (int i = 0; i < 6; i++) due.is("part " + i, x, x.part(i / 2, i % 2), parts[i], 0);
        due.is("part(3, 0)", x, x.part(3, 0), -1, 5);
        due.is("here(2)", x, x.here(2), true, 0);
        due.fraction("here(2)", x, 1, 1);
        due.is("goOn()", x, x.goOn(), true, 0);
        due.is("part(2, 0)", x, x.part(2, 0), 750001, 0);
        due.is("part(0, 1)", x, x.part(0, 1), 249999, 0);
        due.is("back()", x, x.back(), 0, 0);
        due.is("none is held", x, x.many(10), -1, 0);
        due.is("part(0, 0)", x, x.part(0, 0), -1, 8);
        // A ring that is held when its order was another one, and one that is lent since.
        x.take(1);
        x.mark();
        x.off(1);
        x.put(1, 0, 0);
        x.lend(2, true);
        x.take(0);
        due.is("back()", x, x.back(), 0, 0);
        due.is("three places again", x, x.part(2, 1), 83333, 0);
        x.tried(0, true);
        x.here(2);
        due.fraction("who opens it again", x, 1, 1);
    }

    /** Three marks: with a house that is held and known, with another order and one lent, with another house. */
    private static void takenBack() {
        DarkRing x = new DarkRing();
        Due.house(x, HOUSE);
        Due.rule(x, "go;try;");
        x.take(0);
        x.feel(0, 1);
        x.mark();
        x.off(2);
        x.put(2, 0, 0);
        x.lend(0, true);
        Due.rule(x, "");
        x.take(0);
        x.mark();
        Due.house(x, "key z;ring s z;");
        x.mark();
        x.lend(0, true);
        due.is("back()", x, x.back(), 2, 0);
        due.is("not lent", x, x.key(0, 2), 0, 0);
        due.is("the other house", x, x.many(1), 1, 0);
        due.is("back()", x, x.back(), 1, 0);
        due.is("the first house", x, x.many(1), 3, 0);
        due.is("its feature", x, x.feature(0, 0), 2, 0);
        due.is("its door", x, x.door(0, 1), 2, 0);
        due.is("the order", x, x.key(2, 1), 0, 0);
        due.is("who is lent", x, x.key(0, 2), 1, 0);
        due.is("what is held", x, x.many(10), 0, 0);
        due.is("thought", x, x.part(0, 0), 500000, 0);
        due.is("no rule", x, x.play(0, 0, 1), 0, 0);
        due.is("no step", x, x.played(1), 0, 0);
        x.goOn();
        x.tried(0, true);
        due.is("back()", x, x.back(), 0, 0);
        due.is("the order", x, x.key(2, 0), 1, 0);
        due.is("who is lent", x, x.key(0, 2), 0, 0);
        due.is("what is held", x, x.many(10), 0, 0);
        due.is("thought", x, x.part(1, 0), 1000000, 0);
        due.is("thought of a", x, x.part(0, 0), 0, 0);
        due.is("no third place", x, x.part(2, 0), -1, 5);
        due.is("the rule", x, x.play(0, 0, 1) >= 0, true, 0);
        due.is("its steps", x, x.played(1), 2, 0);
        due.is("features' names, too", x, Due.rule(x, "feel f;"), 1, 0);
    }

    private static void whatStays() {
        DarkRing x = new DarkRing();
        Due.house(x, HOUSE);
        x.mark();
        x.tray(0, 0, 1);
        x.write(0, 0, 7);
        x.take(0);
        x.opens(0);
        x.laid(0, false);
        x.play(0, 0, 3);
        Due.feed(x, "go;");
        due.is("back()", x, x.back(), 0, 0);
        due.is("nothing is held", x, x.many(10), -1, 0);
        due.is("the tray stays", x, x.read(0, 0), 7, 0);
        due.is("the tape stays", x, x.rule(3), 1, 0);
        due.is("what is found stays", x, x.found(0), 1, 0);
        due.is("what was played stays", x, x.played(1), 0, 0);
        due.fraction("the fraction stays", x, 4, 1);
    }

    /** A fourth MARK, a back() without one, change nothing: the three MARKS, what is, stay. */
    private static void refusedOnes() {
        DarkRing x = new DarkRing();
        Due.house(x, WHOLE);
        x.take(0);
        List<String> before = Seen.now(x);
        due.is("back()", x, x.back(), -1, 8);
        due.is("nothing changed", Seen.difference(before, Seen.now(x)).isEmpty(), true);
        for (int i = 0; i < 3; i++) x.mark();
        x.goOn();
        x.lend(0, true);
        due.is("mark()", x, x.mark(), -1, 7);
        due.is("lent still", x, x.key(0, 2), 1, 0);
        due.is("back() to the third", x, x.back(), 2, 0);
        due.is("as it was", Seen.difference(before, Seen.now(x)).isEmpty(), true);
    }
}
