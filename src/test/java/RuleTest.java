/** Promises 11 and 50 to 52: rules that are played. */
public final class RuleTest {
    private static final Due due = new Due();
    /**
     * With seed 0 the numbers drawn are 1876, 7950, 2232, 2867: of three places 1, way 0 (14 is not less than 4);
     * then 8 of 16; with drop place 0, way 1 (3 is less than 4).
     */
    private static final String HOUSE = "feature f steps 2 turned;feels f 12 4 4 12;key a 0;key b 1;key c 0;key l 0;"
            + "ring r a b c;ring q;door d wanted 1 by c;door n wanted 1 by l;seconds feel 2 try 5 go 3 drop 7;turned 4;";

    public static void main(String[] args) {
        draws();
        steps();
        whens();
        sure();
        loops();
        limit();
        otherHouse();
        wrong();
        tally();
        due.end("RuleTest");
    }

    private static DarkRing fresh(String rule) {
        DarkRing x = new DarkRing();
        Due.house(x, HOUSE);
        due.is("[" + rule + "]", Due.rule(x, rule) >= 0, true);
        return x;
    }

    /** The answer with seed 0 and DOOR 0, and then played(0) ... */
    private static DarkRing play(String rule, int open, int... all) {
        DarkRing x = fresh(rule);
        played("[" + rule + "]", x, 0, open, all);
        return x;
    }

    private static void played(String what, DarkRing x, int seed, int open, int... all) {
        due.is(what, x, x.play(0, 0, seed), open, 0);
        for (int k = 0; k < all.length; k++) due.is(what + " played(" + k + ")", x, x.played(k), all[k], 0);
    }

    private static void draws() {
        play("", 0, 0, 0, 0, 0, 1, 0, 0);
        for (int seed = 0; seed < 10000; seed += 303) {
            int s = (seed * 2749 + 15013) % 65536;
            int place = s / 8 % 3;
            s = (s * 2749 + 15013) % 65536;
            int way = s / 8 % 16 < 4 ? 1 : 0;
            DarkRing x = fresh("");
            played("seed " + seed, x, seed, 0, 0, 0, 0, 0, place, way, 0);
        }
    }

    private static void steps() {
        play("feel f;", 0, 2, 1, 1, 0, 1, 0, 0);
        play("go;", 0, 3, 1, 0, 0, 2, 0, 0);
        play("go;go;", 0, 6, 2, 0, 0, 0, 0, 0);
        play("turn;", 0, 0, 1, 0, 0, 1, 1, 0);
        play("turn;go;go;", 0, 6, 3, 0, 0, 2, 1, 0);
        play("drop;", 0, 7, 1, 0, 0, 0, 1, 0);
        play("drop;go;", 0, 10, 2, 0, 0, 2, 1, 0);
        play("try;", 0, 5, 1, 0, 1, 1, 0, 0);
        play("try;go;try;go;", 1, 13, 3, 0, 2, 2, 0, 0);
        play("stop;go;", 0, 0, 1, 0, 0, 1, 0, 0);
        DarkRing x = fresh("go;try;");
        due.is("another door", x, x.play(0, 1, 0), 0, 0);
        due.is("another door's seconds", x, x.played(0), 8, 0);
        x.lend(1, true);
        due.is("a lent one is not there: place 0 of two", x, x.play(0, 0, 0), 1, 0);
        due.is("its place", x, x.played(4), 1, 0);
        x.lend(2, true);
        due.is("a lent one opens nothing", x, x.play(0, 0, 0), 0, 0);
    }

    private static void whens() {
        play("feel f;when felt f=1;go;end;", 0, 5, 3, 1, 0, 2, 0, 0);
        play("feel f;when felt f<1;go;end;", 0, 2, 2, 1, 0, 1, 0, 0);
        play("feel f;when felt f<2;go;end;", 0, 5, 3, 1, 0, 2, 0, 0);
        play("feel f;when felt f>1;go;end;", 0, 2, 2, 1, 0, 1, 0, 0);
        play("feel f;when felt f>0;go;when felt f>0;go;end;end;", 0, 5, 4, 1, 0, 2, 0, 0);
        play("when felt f<3;go;end;", 0, 0, 1, 0, 0, 1, 0, 0);
        play("feel f;turn;when felt f<3;go;end;", 0, 2, 3, 1, 0, 1, 1, 0);
        play("feel f;drop;when felt f<3;go;end;", 0, 9, 3, 1, 0, 2, 0, 0);
        play("try;when tried;go;end;when tried;stop;end;try;", 1, 13, 5, 0, 2, 2, 0, 0);
        play("try;turn;when tried;go;end;", 0, 5, 3, 0, 1, 1, 1, 0);
        play("when tried;go;end;try;when tried;when tried;stop;end;end;go;", 0, 5, 5, 0, 1, 1, 0, 0);
    }

    /** OPENS is 333333 at first; behind a try in vain 0, and where it goes on from there 499998. */
    private static void sure() {
        play("when sure 5;go;end;", 0, 3, 2, 0, 0, 2, 0, 0);
        play("when sure 6;go;end;", 0, 0, 1, 0, 0, 1, 0, 0);
        play("when sure 0;go;end;", 0, 3, 2, 0, 0, 2, 0, 0);
        play("try;when sure 1;go;end;", 0, 5, 2, 0, 1, 1, 0, 0);
        play("try;go;when sure 7;go;end;", 0, 11, 4, 0, 1, 0, 0, 0);
        play("try;go;when sure 8;go;end;", 0, 8, 3, 0, 1, 2, 0, 0);
        DarkRing x = fresh("try;go;drop;when sure 6;go;end;");
        due.is("drop forgets", x, x.play(0, 0, 0), 0, 0);
        due.is("drop forgets", x, x.played(1), 4, 0);
        x = new DarkRing();
        Due.house(x, HOUSE.replace("turned 4;", "turned 0;").replace("feels f 12 4 4 12;", ""));
        Due.rule(x, "feel f;go;when sure 16;try;end;");
        due.is("it is felt", x, x.play(0, 0, 0), 1, 0);
    }

    private static void loops() {
        play("loop 3;go;end;", 0, 9, 4, 0, 0, 1, 0, 0);
        play("loop 2;loop 3;turn;end;go;end;", 0, 6, 11, 0, 0, 1, 0, 0);
        play("loop 9;loop 9;turn;turn;end;end;", 0, 0, 172, 0, 0, 1, 0, 0);
        play("loop 9;loop 9;loop 9;end;end;end;", 0, 0, 91, 0, 0, 1, 0, 0);
        play("loop 9;when tried;stop;end;try;end;", 0, 5, 5, 0, 1, 1, 0, 0);
    }

    private static void limit() {
        String most = "loop 9;loop 9;turn;turn;end;turn;turn;turn;end;";
        play(most + "turn;", 0, 0, 200, 0, 0, 1, 0, 0);
        play(most + "turn;stop;", 0, 0, 200, 0, 0, 1, 0, 1);
        play(most + "stop;turn;", 0, 0, 200, 0, 0, 1, 1, 0);
        play(most + "loop 2;end;", 0, 0, 200, 0, 0, 1, 1, 0);
        play(most + "loop 2;go;end;", 0, 0, 200, 0, 0, 1, 1, 1);
        play(most + "when tried;go;end;", 0, 0, 200, 0, 0, 1, 1, 0);
        play("go;" + most.replaceFirst("turn;turn;turn;", "turn;turn;") + "loop 7;turn;end;try;go;", 1, 8, 200, 0, 1, 2,
                1, 0);
    }

    /** A feature's number stays, whatever the house is then. */
    private static void otherHouse() {
        DarkRing x = new DarkRing();
        Due.house(x, "feature g steps 2;feature f steps 4;");
        Due.rule(x, "feel f;when felt f<3;go;end;feel g;when felt g=0;try;end;");
        Due.house(x, "feature h steps 2;key a 0;key b 0;ring r a b;door d wanted 1 by a b;turned 0;");
        played("of one that is none nothing is done", x, 0, 1, 5, 5, 1, 1);
        x.house(0);
        due.is("no ring", x, x.play(0, 0, 0), -1, 2);
    }

    private static void wrong() {
        DarkRing x = fresh("try;");
        due.is("played ahead of all", x, x.played(0), -1, 8);
        due.is("played(7)", x, x.played(7), -1, 5);
        due.is("played(-1)", x, x.played(-1), -1, 5);
        x.play(0, 0, 0);
        due.is("no such ring", x, x.play(2, 0, -1), -1, 2);
        due.is("no such door", x, x.play(0, 2, -1), -1, 2);
        due.is("seed -1", x, x.play(0, 0, -1), -1, 5);
        due.is("seed 10000", x, x.play(1, 0, 10000), -1, 5);
        due.is("no key there", x, x.play(1, 0, 0), -1, 8);
        due.is("played(0) stays", x, x.played(0), 5, 0);
        due.is("played(7)", x, x.played(7), -1, 5);
        due.is("seed 9999", x, x.play(0, 0, 9999) >= 0, true, 0);
        x.take(0);
        x.feel(0, 1);
        int part = x.part(1, 0);
        due.is("another ring is held", x, x.many(10), 0, 0);
        Due.rule(x, "feel f;try;go;when sure 3;end;");
        x.play(0, 0, 5);
        due.is("thought as it was", x, x.part(1, 0), part, 0);
        due.is("held as it was", x, x.many(10), 0, 0);
        Due.house(x, "key a;");
        due.is("played(1) stays with another house", x, x.played(1) > 0, true, 0);
    }

    private static void tally() {
        DarkRing x = fresh("try;go;try;");
        int open = 0;
        int seconds = 0;
        for (int seed = 40; seed < 70; seed++) {
            open += x.play(0, 0, seed);
            seconds += x.played(0);
        }
        x.play(0, 0, 0);
        due.is("tally(0, 0, 40, 30)", x, x.tally(0, 0, 40, 30), open, 0);
        due.is("the mean of seconds", x.top() * 30, seconds * x.bottom());
        due.is("played() tells of play() alone", x, x.played(0), 13, 0);
        due.is("tally(0, 0, 0, 1)", x, x.tally(0, 0, 0, 1), 1, 0);
        due.fraction("tally(0, 0, 0, 1)", x, 13, 1);
        due.is("the last 9999", x, x.tally(0, 0, 9970, 30) >= 0, true, 0);
        due.is("the last 10000", x, x.tally(0, 0, 9971, 30), -1, 5);
        due.is("many 0", x, x.tally(0, 0, 0, 0), -1, 5);
        due.is("many 31", x, x.tally(0, 0, 0, 31), -1, 5);
        due.is("seed -1", x, x.tally(0, 0, -1, 5), -1, 5);
        due.is("seed far above", x, x.tally(0, 0, Integer.MAX_VALUE, 2), -1, 5);
        due.is("no such ring", x, x.tally(2, 0, -1, 0), -1, 2);
        due.is("no such door", x, x.tally(0, -1, -1, 0), -1, 2);
        due.is("no key there", x, x.tally(1, 0, 0, 1), -1, 8);
    }
}
