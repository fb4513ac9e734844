/** Promises 53, 54: marks, and what is taken back to them. */
public final class MarksTest {
    private static final Due due = new Due();
    private static final String HOUSE = "feature f steps 2;key a 0;key b 1;key c 0;ring r a b;ring q c;"
            + "door d wanted 1 by b;turned 0;";

    public static void main(String[] args) {
        counted();
        takenBack();
        whatStays();
        due.end("MarksTest");
    }

    private static void counted() {
        DarkRing x = new DarkRing();
        due.is("back()", x, x.back(), -1, 8);
        due.is("mark()", x, x.mark(), 1, 0);
        due.is("mark()", x, x.mark(), 2, 0);
        due.is("mark()", x, x.mark(), 3, 0);
        due.is("one too many", x, x.mark(), -1, 7);
        due.is("back()", x, x.back(), 2, 0);
        due.is("mark()", x, x.mark(), 3, 0);
        due.is("back()", x, x.back(), 2, 0);
        due.is("back()", x, x.back(), 1, 0);
        due.is("back()", x, x.back(), 0, 0);
        due.is("back()", x, x.back(), -1, 8);
    }

    /** Three marks: with a house that is held and known, with another order and one lent, with another house. */
    private static void takenBack() {
        DarkRing x = new DarkRing();
        Due.house(x, HOUSE);
        Due.rule(x, "go;try;");
        x.take(0);
        x.feel(0, 1);
        x.mark();
        x.off(2);
        x.put(2, 0, 0);
        x.lend(0, true);
        Due.rule(x, "");
        x.take(0);
        x.mark();
        Due.house(x, "key z;ring s z;");
        x.mark();
        x.lend(0, true);
        due.is("back()", x, x.back(), 2, 0);
        due.is("not lent", x, x.key(0, 2), 0, 0);
        due.is("the other house", x, x.many(1), 1, 0);
        due.is("back()", x, x.back(), 1, 0);
        due.is("the first house", x, x.many(1), 3, 0);
        due.is("its feature", x, x.feature(0, 0), 2, 0);
        due.is("its door", x, x.door(0, 1), 2, 0);
        due.is("the order", x, x.key(2, 1), 0, 0);
        due.is("who is lent", x, x.key(0, 2), 1, 0);
        due.is("what is held", x, x.many(10), 0, 0);
        due.is("thought", x, x.part(0, 0), 500000, 0);
        due.is("no rule", x, x.play(0, 0, 1), 0, 0);
        due.is("no step", x, x.played(1), 0, 0);
        x.goOn();
        x.tried(0, true);
        due.is("back()", x, x.back(), 0, 0);
        due.is("the order", x, x.key(2, 0), 1, 0);
        due.is("who is lent", x, x.key(0, 2), 0, 0);
        due.is("what is held", x, x.many(10), 0, 0);
        due.is("thought", x, x.part(1, 0), 1000000, 0);
        due.is("thought of a", x, x.part(0, 0), 0, 0);
        due.is("no third place", x, x.part(2, 0), -1, 5);
        due.is("the rule", x, x.play(0, 0, 1) >= 0, true, 0);
        due.is("its steps", x, x.played(1), 2, 0);
        due.is("features' names, too", x, Due.rule(x, "feel f;"), 1, 0);
    }

    private static void whatStays() {
        DarkRing x = new DarkRing();
        Due.house(x, HOUSE);
        x.mark();
        x.tray(0, 0, 1);
        x.write(0, 0, 7);
        x.take(0);
        x.opens(0);
        x.laid(0, false);
        x.play(0, 0, 3);
        Due.feed(x, "go;");
        due.is("back()", x, x.back(), 0, 0);
        due.is("nothing is held", x, x.many(10), -1, 0);
        due.is("the tray stays", x, x.read(0, 0), 7, 0);
        due.is("the tape stays", x, x.rule(3), 1, 0);
        due.is("what is found stays", x, x.found(0), 1, 0);
        due.is("what was played stays", x, x.played(1), 0, 0);
        due.fraction("the fraction stays", x, 4, 1);
    }
}
