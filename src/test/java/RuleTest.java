/** Promises 11 and 50 to 52: rules that are played. */
public final class RuleTest {
    private static final Due due = new Due();
    /**
     * With seed 0 the numbers drawn are 1876, 7950, 2232, 2867: of three places 1, way 0 (14 is not less than 4);
     * then 8 of 16; with drop place 0, way 1 (3 is less than 4).
     */
    private static final String HOUSE = "feature f steps 2 turned;feels f 12 4 4 12;key a 0;key b 1;key c 0;key l 0;"
            + "ring r a b c;ring q;door d wanted 1 by c;door n wanted 1 by l;seconds feel 2 try 5 go 3 drop 7;turned 4;";

    public static void main(String[] args) {
        draws();
        truePlaceAndWay();
        feltByDraw();
        steps();
        roundTheRing();
        whens();
        compares();
        sinceThen();
        sure();
        sureOrNot();
        thoughtByAll();
        loops();
        loopsAgain();
        mostSteps();
        limit();
        limitOfEach();
        secondsTogether();
        again();
        otherHouse();
        wrong();
        tally();
        tallyAtTheEnds();
        due.end("RuleTest");
    }

    private static DarkRing fresh(String rule) {
        DarkRing x = new DarkRing();
        Due.house(x, HOUSE);
        due.is("[" + rule + "]", Due.rule(x, rule) >= 0, true);
        return x;
    }

    /** The answer with seed 0 and DOOR 0, and then played(0) ... */
    private static DarkRing play(String rule, int open, int... all) {
        DarkRing x = fresh(rule);
        played("[" + rule + "]", x, 0, open, all);
        return x;
    }

    private static void played(String what, DarkRing x, int seed, int open, int... all) {
        due.is(what, x, x.play(0, 0, seed), open, 0);
        for (int k = 0; k < all.length; k++) due.is(what + " played(" + k + ")", x, x.played(k), all[k], 0);
    }

    private static void draws() {
        play("", 0, 0, 0, 0, 0, 1, 0, 0);
        for (int seed = 0; seed < 10000; seed += 303) {
            int s = (seed * 2749 + 15013) % 65536;
            int place = s / 8 % 3;
            s = (s * 2749 + 15013) % 65536;
            int way = s / 8 % 16 < 4 ? 1 : 0;
            DarkRing x = fresh("");
            played("seed " + seed, x, seed, 0, 0, 0, 0, 0, place, way, 0);
        }
    }

    private static int drawn(int seed, int count) {
        int s = seed;
        for (int i = 0; i < count; i++) s = (s * 2749 + 15013) % 65536;
        return s / 8;
    }

    /** By n, for rings of 1 to 10 KEYS; by 16, way 1 if less than TURNED: 0 never, 16 always. */
    private static void truePlaceAndWay() {
        String keys = "";
        String on = "";
        for (int n = 1; n <= 10; n++) {
            keys += "key k" + (char) ('a' + n) + ";";
            on += " k" + (char) ('a' + n);
            for (int turned = 0; turned <= 16; turned++) {
                DarkRing x = new DarkRing();
                Due.house(x, keys + "ring r" + on + ";door d wanted 0 by kb;turned " + turned + ";");
                for (int seed = 0; seed < 10000; seed += 1111) {
                    int way = drawn(seed, 2) % 16 < turned ? 1 : 0;
                    played("n " + n + ", turned " + turned + ", seed " + seed, x, seed, 0, 0, 0, 0, 0, drawn(seed, 1) % n,
                            way, 0);
                }
            }
        }
        // With seed 0 the second draw is 14.
        for (int turned = 13; turned <= 16; turned++) {
            DarkRing x = new DarkRing();
            Due.house(x, "key a;ring r a;door d wanted 0 by a;turned " + turned + ";");
            played("turned " + turned, x, 0, 0, 0, 0, 0, 0, 0, turned > 14 ? 1 : 0, 0);
        }
    }

    /** With seed 0 the draw is 8: the first STEP with which FEELS up to it are 9 and more. */
    private static void feltByDraw() {
        String[] rows = {"16 0 0 0", "9 7 0 0", "8 8 0 0", "0 16 0 0", "4 4 8 0", "4 5 7 0", "0 0 0 16", "8 0 0 8", "2 3 3 8",
            "2 3 4 7", "0 8 1 7", "0 9 0 7", "1 1 1 13"};
        int[] felt = {0, 0, 1, 1, 2, 1, 3, 3, 3, 2, 2, 1, 3};
        for (int i = 0; i < rows.length; i++) {
            for (int turned = 0; turned <= 16; turned += 16) {
                // The KEY at hand is met as STEP 1: told as 1, or as 2 if all is turned.
                String others = " 16 0 0 0 16 0 0 0;key a ";
                String house = "feature f steps 4 turned;feels f 16 0 0 0 " + rows[i] + others + (turned == 0 ? 1 : 2)
                        + ";ring r a;door d wanted 0 by a;turned " + turned + ";";
                for (int step = 0; step < 4; step++) {
                    DarkRing x = new DarkRing();
                    Due.house(x, house);
                    Due.rule(x, "feel f;when felt f = " + step + ";try;end;");
                    boolean isFelt = step == felt[i];
                    played(rows[i] + " felt as " + step, x, 0, isFelt ? 1 : 0, isFelt ? 5 : 1, isFelt ? 3 : 2, 1,
                            isFelt ? 1 : 0, 0, turned / 16, 0);
                }
            }
        }
    }

    private static void steps() {
        play("feel f;", 0, 2, 1, 1, 0, 1, 0, 0);
        play("go;", 0, 3, 1, 0, 0, 2, 0, 0);
        play("go;go;", 0, 6, 2, 0, 0, 0, 0, 0);
        play("turn;", 0, 0, 1, 0, 0, 1, 1, 0);
        play("turn;go;go;", 0, 6, 3, 0, 0, 2, 1, 0);
        play("drop;", 0, 7, 1, 0, 0, 0, 1, 0);
        play("drop;go;", 0, 10, 2, 0, 0, 2, 1, 0);
        play("try;", 0, 5, 1, 0, 1, 1, 0, 0);
        play("try;go;try;go;", 1, 13, 3, 0, 2, 2, 0, 0);
        play("stop;go;", 0, 0, 1, 0, 0, 1, 0, 0);
        DarkRing x = fresh("go;try;");
        due.is("another door", x, x.play(0, 1, 0), 0, 0);
        due.is("another door's seconds", x, x.played(0), 8, 0);
        x.lend(1, true);
        due.is("a lent one is not there: place 0 of two", x, x.play(0, 0, 0), 1, 0);
        due.is("its place", x, x.played(4), 1, 0);
        x.lend(2, true);
        due.is("a lent one opens nothing", x, x.play(0, 0, 0), 0, 0);
    }

    /** From the last PLACE to the first with way 0, from the first to the last with way 1; n times is as it was. */
    private static void roundTheRing() {
        for (int n = 1; n <= 10; n++) {
            String keys = "";
            String on = "";
            for (int i = 0; i < n; i++) {
                keys += "key k" + (char) ('a' + i) + ";";
                on += " k" + (char) ('a' + i);
            }
            for (int turned = 0; turned <= 16; turned += 16) {
                int place = drawn(0, 1) % n;
                for (int go = 0; go <= 9; go++) {
                    DarkRing x = new DarkRing();
                    Due.house(x, keys + "ring r" + on + ";door d wanted 0 by ka;turned " + turned + ";");
                    Due.rule(x, go == 0 ? "" : "loop " + go + ";go;end;");
                    int there = Math.floorMod(turned == 0 ? place + go : place - go, n);
                    played("n " + n + ", go " + go, x, 0, 0, go, go == 0 ? 0 : go + 1, 0, 0, there, turned / 16, 0);
                }
            }
        }
    }

    private static void whens() {
        play("feel f;when felt f=1;go;end;", 0, 5, 3, 1, 0, 2, 0, 0);
        play("feel f;when felt f<1;go;end;", 0, 2, 2, 1, 0, 1, 0, 0);
        play("feel f;when felt f<2;go;end;", 0, 5, 3, 1, 0, 2, 0, 0);
        play("feel f;when felt f>1;go;end;", 0, 2, 2, 1, 0, 1, 0, 0);
        play("feel f;when felt f>0;go;when felt f>0;go;end;end;", 0, 5, 4, 1, 0, 2, 0, 0);
        play("when felt f<3;go;end;", 0, 0, 1, 0, 0, 1, 0, 0);
        play("feel f;turn;when felt f<3;go;end;", 0, 2, 3, 1, 0, 1, 1, 0);
        play("feel f;drop;when felt f<3;go;end;", 0, 9, 3, 1, 0, 2, 0, 0);
        play("try;when tried;go;end;when tried;stop;end;try;", 1, 13, 5, 0, 2, 2, 0, 0);
        play("try;turn;when tried;go;end;", 0, 5, 3, 0, 1, 1, 1, 0);
        play("when tried;go;end;try;when tried;when tried;stop;end;end;go;", 0, 5, 5, 0, 1, 1, 0, 0);
    }

    /** What is FELT is 0, 1, 2, 3; each is compared with 0, 1, 2, 3 by <, > and =. */
    private static void compares() {
        for (int felt = 0; felt < 4; felt++) {
            for (int step = 0; step < 4; step++) {
                boolean[] isSo = {felt < step, felt > step, felt == step};
                for (int i = 0; i < 3; i++) {
                    DarkRing x = new DarkRing();
                    Due.house(x, "feature f steps 4;key a " + felt + ";ring r a;door d wanted 0 by a;turned 0;");
                    Due.rule(x, "feel f;when felt f" + "<>=".charAt(i) + step + ";try;end;");
                    played(felt + "<>=".substring(i, i + 1) + step, x, 0, isSo[i] ? 1 : 0, isSo[i] ? 5 : 1);
                }
            }
        }
    }

    /** Felt, tried: at the KEY at hand since the latest go, turn or drop; the latest time; FEATURE by FEATURE. */
    private static void sinceThen() {
        for (String moved : new String[] {"go;", "turn;", "drop;"}) {
            String then = moved + "when tried;stop;end;when felt f<3;stop;end;turn;";
            DarkRing x = fresh("feel f;try;" + then);
            x.play(0, 1, 0);
            due.is(moved + " all forgotten", x, x.played(1), 6, 0);
            x = fresh("feel f;try;" + then.substring(moved.length()));
            x.play(0, 1, 0);
            due.is("not forgotten without " + moved, x, x.played(1), 4, 0);
        }
        String ring = "key a 1 0;ring r a;door d wanted 0 by a;turned 0;";
        DarkRing x = new DarkRing();
        Due.house(x, "feature f steps 2;feature g steps 2;" + ring);
        Due.rule(x, "feel f;when felt g<2;stop;end;feel g;when felt f=1;when felt g=0;try;end;end;");
        played("each feature of its own", x, 0, 1, 6, 6, 2, 1, 0, 0, 0);
        // With seed 0 the third draw is 8, the fourth 3: felt as 1, then as 0.
        x = new DarkRing();
        Due.house(x, "feature f steps 2;feature g steps 2;feels f 8 8 8 8;" + ring);
        Due.rule(x, "feel f;when felt f=1;feel f;when felt f=1;stop;end;when felt f=0;try;end;end;");
        played("the latest time", x, 0, 1, 6, 6, 2, 1, 0, 0, 0);
        Due.rule(x, "try;");
        Due.rule(x, "when tried;stop;end;when felt f<3;stop;end;");
        played("nothing of the play ahead", x, 0, 0, 0, 2, 0, 0, 0, 0, 0);
    }

    /** OPENS is 333333 at first; behind a try in vain 0, and where it goes on from there 499998. */
    private static void sure() {
        play("when sure 5;go;end;", 0, 3, 2, 0, 0, 2, 0, 0);
        play("when sure 6;go;end;", 0, 0, 1, 0, 0, 1, 0, 0);
        play("when sure 0;go;end;", 0, 3, 2, 0, 0, 2, 0, 0);
        play("try;when sure 1;go;end;", 0, 5, 2, 0, 1, 1, 0, 0);
        play("try;go;when sure 7;go;end;", 0, 11, 4, 0, 1, 0, 0, 0);
        play("try;go;when sure 8;go;end;", 0, 8, 3, 0, 1, 2, 0, 0);
        DarkRing x = fresh("try;go;drop;when sure 6;go;end;");
        due.is("drop forgets", x, x.play(0, 0, 0), 0, 0);
        due.is("drop forgets", x, x.played(1), 4, 0);
        x = new DarkRing();
        Due.house(x, HOUSE.replace("turned 4;", "turned 0;").replace("feels f 12 4 4 12;", ""));
        Due.rule(x, "feel f;go;when sure 16;try;end;");
        due.is("it is felt", x, x.play(0, 0, 0), 1, 0);
    }

    /** OPENS is at least n sixteenths: just so many, one part less, none, all. */
    private static void sureOrNot() {
        String two = "key a;key b;ring r a b;door d wanted 0 by a;turned 0;";
        for (int n = 0; n <= 16; n++) {
            String rule = "when sure " + n + ";turn;end;";
            DarkRing x = new DarkRing();
            Due.house(x, two);
            Due.rule(x, rule);
            x.play(0, 0, 0);
            due.is("500,000 is sure " + n, x, x.played(1), n <= 8 ? 2 : 1, 0);
            Due.house(x, two.replace("by a", "by a b"));
            x.play(0, 0, 0);
            due.is("1,000,000 is sure " + n, x, x.played(1), 2, 0);
            Due.house(x, two.replace("ring r a b", "key c;ring r c b"));
            x.play(0, 0, 0);
            due.is("0 is sure " + n, x, x.played(1), n == 0 ? 2 : 1, 0);
            // Of three KEYS 333334, 333333, 333333: two of them are 666666 or 666667, less than 11 sixteenths.
            Due.house(x, "key a;key b;key c;ring r a b c;door d wanted 0 by b c;turned 0;");
            x.play(0, 0, 0);
            due.is("666,666 is sure " + n, x, x.played(1), n <= 10 ? 2 : 1, 0);
            // Of sixteen sixteenths with 5 each way 1 there are 62,500 by one, 187,500 by three of four KEYS.
            Due.house(x, "key a;key b;key c;key e;ring r a b c e;door d wanted 0 by b c e;turned 4;");
            x.play(0, 0, 0);
            due.is("750,000 is sure " + n, x, x.played(1), n <= 12 ? 2 : 1, 0);
        }
    }

    /** THOUGHT by feel, go, turn and drop, as OPENS tells; draws, PLACE and way as with seed 0 in HOUSE. */
    private static void thoughtByAll() {
        // Felt as 1: way 0 48, 144, 48 and way 1 48, 16, 48 by 352. At c with way 0, with way 1: 96 by 352.
        String[] ahead = {"", "feel f;", "feel f;go;", "feel f;turn;", "feel f;turn;go;", "feel f;go;turn;go;",
            "feel f;drop;", "feel f;go;go;", "feel f;go;go;go;", "feel f;turn;turn;go;"};
        // 1/3, 96/352, (144 + 48)/352, 96/352, (16 + 48)/352, 96/352, 1/3, (48 + 16)/352, 96/352, 192/352, by 16.
        int[] most = {5, 4, 8, 4, 2, 4, 5, 2, 4, 8};
        for (int i = 0; i < ahead.length; i++) {
            int steps = ahead[i].split(";").length;
            if (i == 0) steps = 0;
            for (int n = 0; n <= 16; n++) {
                DarkRing x = fresh(ahead[i] + "when sure " + n + ";turn;end;");
                x.play(0, 0, 0);
                due.is(ahead[i] + " sure " + n, x, x.played(1), steps + (n <= most[i] ? 2 : 1), 0);
            }
        }
    }

    private static void loops() {
        play("loop 3;go;end;", 0, 9, 4, 0, 0, 1, 0, 0);
        play("loop 2;loop 3;turn;end;go;end;", 0, 6, 11, 0, 0, 1, 0, 0);
        play("loop 9;loop 9;turn;turn;end;end;", 0, 0, 172, 0, 0, 1, 0, 0);
        play("loop 9;loop 9;loop 9;end;end;end;", 0, 0, 91, 0, 0, 1, 0, 0);
        play("loop 9;when tried;stop;end;try;end;", 0, 5, 5, 0, 1, 1, 0, 0);
    }

    /** A loop that is come to again is done n times again; when in loops, loops in when; 1 and 9 times. */
    private static void loopsAgain() {
        play("loop 1;turn;end;", 0, 0, 2, 0, 0, 1, 1, 0);
        play("loop 9;turn;end;", 0, 0, 10, 0, 0, 1, 1, 0);
        play("loop 1;loop 1;loop 1;turn;end;end;end;", 0, 0, 4, 0, 0, 1, 1, 0);
        play("loop 3;loop 1;turn;end;loop 4;go;end;end;", 0, 36, 22, 0, 0, 0, 1, 0);
        play("loop 2;when tried;turn;end;loop 2;go;end;end;", 0, 12, 9, 0, 0, 2, 0, 0);
        play("try;when tried;loop 3;turn;end;end;go;", 0, 8, 7, 0, 1, 0, 1, 0);
        play("loop 5;try;go;end;go;go;go;", 1, 13, 4, 0, 2, 2, 0, 0);
        play("loop 5;stop;end;go;", 0, 0, 2, 0, 0, 1, 0, 0);
        play("when tried;loop 9;go;end;end;turn;", 0, 0, 2, 0, 0, 1, 1, 0);
        play("loop 2;end;loop 3;end;", 0, 0, 2, 0, 0, 1, 0, 0);
        play("when sure 0;end;turn;", 0, 0, 2, 0, 0, 1, 1, 0);
        play("when sure 16;end;turn;", 0, 0, 2, 0, 0, 1, 1, 0);
    }

    /** 30 STEPS, as many ends as may be with them, in 300 bytes. */
    private static void mostSteps() {
        String[] rules = {"loop1;end;".repeat(30), "loop1;end;".repeat(29) + "try;", "loop1;go;end;".repeat(15),
            "loop1;loop1;go;end;end;".repeat(10), "loop1;loop1;loop1;end;end;end;".repeat(10), "go;".repeat(30),
            "when tried;end;".repeat(20), "go;try;turn;".repeat(10)};
        int[] told = {30, 30, 30, 30, 30, 30, 20, 30};
        int[] place = {1, 1, 1, 2, 1, 1, 1, 1};
        for (int i = 0; i < rules.length; i++) {
            DarkRing x = new DarkRing();
            Due.house(x, HOUSE);
            due.is(rules[i], x, Due.rule(x, rules[i]), told[i], 0);
            x.play(0, 1, 0);
            due.is(rules[i] + " steps", x, x.played(1), told[i], 0);
            due.is(rules[i] + " place", x, x.played(4), place[i], 0);
        }
    }

    /** 199 STEPS, 200, and one more of each kind: it is left to be done, be it a stop, a try, a when, a loop. */
    private static void limitOfEach() {
        String most = "loop 9;loop 9;turn;turn;end;turn;turn;turn;end;";
        String less = most.replaceFirst("turn;end;$", "end;") + "loop 8;turn;end;";
        play(less, 0, 0, 199, 0, 0, 1, 0, 0);
        String[] steps = {"feel f;", "try;", "go;", "turn;", "drop;", "stop;", "when tried;end;", "when tried;go;end;",
            "loop 9;end;"};
        for (String step : steps) {
            DarkRing x = fresh(less + step);
            x.play(0, 0, 0);
            due.is("200 with " + step, x, x.played(1), 200, 0);
            due.is("200 with " + step + " none left", x, x.played(6), 0, 0);
            for (String one : steps) {
                x = fresh(less + step + one);
                x.play(0, 0, 0);
                boolean isOver = step.equals("stop;");
                due.is("200 with " + step + one, x, x.played(1), 200, 0);
                due.is("200 with " + step + one + " one left", x, x.played(6), isOver ? 0 : 1, 0);
                due.is(one + " is not done", x, x.played(3), step.equals("try;") ? 1 : 0, 0);
            }
        }
        String fewer = less.replaceFirst("loop 8;turn;end;$", "loop 7;turn;end;");
        DarkRing x = fresh("go;" + fewer + "try;go;");
        due.is("the 200th opens", x, x.play(0, 0, 0), 1, 0);
        due.is("its steps", x, x.played(1), 200, 0);
        due.is("none was left to be done", x, x.played(6), 0, 0);
        x = fresh(less + "go;try;");
        due.is("the 201st would open", x, x.play(0, 0, 0), 0, 0);
        due.is("one was left", x, x.played(6), 1, 0);
        due.is("it was not tried", x, x.played(3), 0, 0);
        x = fresh(less + "loop 2;end;");
        x.play(0, 0, 0);
        due.is("an end is none", x, x.played(6), 0, 0);
        x = fresh("loop 2;" + fewer + "end;");
        x.play(0, 0, 0);
        due.is("what a loop does again is left", x, x.played(6), 1, 0);
    }

    /** SECONDS of all that is done, 1 and 99 each. */
    private static void secondsTogether() {
        DarkRing x = new DarkRing();
        String house = "feature f steps 2;key a 0;key b 0;key c 0;ring r a b;door d wanted 0 by c;turned 0;";
        Due.house(x, house + "seconds feel 1 try 10 go 30 drop 99;");
        Due.rule(x, "feel f;feel f;feel f;try;try;go;go;turn;when tried;end;loop 2;end;drop;stop;");
        played("3, 2, 2 and 1", x, 0, 0, 182, 12, 3, 2);
        Due.house(x, house + "seconds feel 99 try 99 go 99 drop 99;");
        Due.rule(x, "loop 9;loop 9;try;drop;end;go;feel f;end;");
        // One loop, nine loops, 81 times 2, nine times 2: 190 steps, all but ten with 99 seconds.
        played("180 times 99", x, 0, 0, 17820, 190, 9, 81);
    }

    /** Each play is a new one. */
    private static void again() {
        DarkRing x = fresh("feel f;try;loop 3;go;end;drop;");
        for (int i = 0; i < 3; i++) {
            played("the same again", x, 0, 0, 23, 7, 1, 1);
            due.is("cut off", x, x.played(6), 0, 0);
        }
        Due.rule(x, "loop 9;loop 9;turn;turn;turn;end;end;");
        x.play(0, 0, 0);
        due.is("200 were done", x, x.played(6), 1, 0);
        Due.rule(x, "");
        played("nothing of it", x, 0, 0, 0, 0, 0, 0, 1, 0, 0);
        Due.rule(x, "go;try;");
        played("open", x, 0, 1, 8, 2, 0, 1, 2, 0, 0);
        Due.rule(x, "turn;");
        played("shut", x, 0, 0, 0, 1, 0, 0, 1, 1, 0);
        due.is("a rule with a fault", Due.rule(x, "go;go;?"), -1);
        played("the old one stays", x, 0, 0, 0, 1, 0, 0, 1, 1, 0);
    }

    private static void limit() {
        String most = "loop 9;loop 9;turn;turn;end;turn;turn;turn;end;";
        play(most + "turn;", 0, 0, 200, 0, 0, 1, 0, 0);
        play(most + "turn;stop;", 0, 0, 200, 0, 0, 1, 0, 1);
        play(most + "stop;turn;", 0, 0, 200, 0, 0, 1, 1, 0);
        play(most + "loop 2;end;", 0, 0, 200, 0, 0, 1, 1, 0);
        play(most + "loop 2;go;end;", 0, 0, 200, 0, 0, 1, 1, 1);
        play(most + "when tried;go;end;", 0, 0, 200, 0, 0, 1, 1, 0);
        play("go;" + most.replaceFirst("turn;turn;turn;", "turn;turn;") + "loop 7;turn;end;try;go;", 1, 8, 200, 0, 1, 2,
                1, 0);
    }

    /** A feature's number stays, whatever the house is then. */
    private static void otherHouse() {
        DarkRing x = new DarkRing();
        Due.house(x, "feature g steps 2;feature f steps 4;");
        Due.rule(x, "feel f;when felt f<3;go;end;feel g;when felt g=0;try;end;");
        Due.house(x, "feature h steps 2;key a 0;key b 0;ring r a b;door d wanted 1 by a b;turned 0;");
        played("of one that is none nothing is done", x, 0, 1, 5, 5, 1, 1);
        x.house(0);
        due.is("no ring", x, x.play(0, 0, 0), -1, 2);
    }

    private static void wrong() {
        DarkRing x = fresh("try;");
        due.is("played ahead of all", x, x.played(0), -1, 8);
        due.is("played(7)", x, x.played(7), -1, 5);
        due.is("played(-1)", x, x.played(-1), -1, 5);
        x.play(0, 0, 0);
        due.is("no such ring", x, x.play(2, 0, -1), -1, 2);
        due.is("no such door", x, x.play(0, 2, -1), -1, 2);
        due.is("seed -1", x, x.play(0, 0, -1), -1, 5);
        due.is("seed 10000", x, x.play(1, 0, 10000), -1, 5);
        due.is("no key there", x, x.play(1, 0, 0), -1, 8);
        due.is("played(0) stays", x, x.played(0), 5, 0);
        due.is("played(7)", x, x.played(7), -1, 5);
        due.is("seed 9999", x, x.play(0, 0, 9999) >= 0, true, 0);
        x.take(0);
        x.feel(0, 1);
        int part = x.part(1, 0);
        due.is("another ring is held", x, x.many(10), 0, 0);
        Due.rule(x, "feel f;try;go;when sure 3;end;");
        x.play(0, 0, 5);
        due.is("thought as it was", x, x.part(1, 0), part, 0);
        due.is("held as it was", x, x.many(10), 0, 0);
        Due.house(x, "key a;");
        due.is("played(1) stays with another house", x, x.played(1) > 0, true, 0);
    }

    private static void tally() {
        DarkRing x = fresh("try;go;try;");
        int open = 0;
        int seconds = 0;
        for (int seed = 40; seed < 70; seed++) {
            open += x.play(0, 0, seed);
            seconds += x.played(0);
        }
        x.play(0, 0, 0);
        due.is("tally(0, 0, 40, 30)", x, x.tally(0, 0, 40, 30), open, 0);
        due.is("the mean of seconds", x.top() * 30, seconds * x.bottom());
        due.is("played() tells of play() alone", x, x.played(0), 13, 0);
        due.is("tally(0, 0, 0, 1)", x, x.tally(0, 0, 0, 1), 1, 0);
        due.fraction("tally(0, 0, 0, 1)", x, 13, 1);
        due.is("the last 9999", x, x.tally(0, 0, 9970, 30) >= 0, true, 0);
        due.is("the last 10000", x, x.tally(0, 0, 9971, 30), -1, 5);
        due.is("many 0", x, x.tally(0, 0, 0, 0), -1, 5);
        due.is("many 31", x, x.tally(0, 0, 0, 31), -1, 5);
        due.is("seed -1", x, x.tally(0, 0, -1, 5), -1, 5);
        due.is("seed far above", x, x.tally(0, 0, Integer.MAX_VALUE, 2), -1, 5);
        due.is("no such ring", x, x.tally(2, 0, -1, 0), -1, 2);
        due.is("no such door", x, x.tally(0, -1, -1, 0), -1, 2);
        due.is("no key there", x, x.tally(1, 0, 0, 1), -1, 8);
    }

    /** 1 to 30 seeds, 0 to 9,999; OPEN of none, of all; SECONDS of those that are not OPEN, too. */
    private static void tallyAtTheEnds() {
        DarkRing x = fresh("try;");
        for (int many = -1; many <= 32; many++) {
            boolean isFine = many >= 1 && many <= 30;
            due.is("many " + many, x, x.tally(0, 0, 0, many) >= 0, isFine, isFine ? 0 : 5);
            int last = 10000 - Math.max(1, Math.min(many, 30));
            due.is("up to 9,999, many " + many, x, x.tally(0, 0, last, many) >= 0, isFine, isFine ? 0 : 5);
            due.is("up to 10,000, many " + many, x, x.tally(0, 0, last + 1, many), -1, 5);
        }
        due.is("seed 9,999 alone", x, x.tally(0, 0, 9999, 1), x.play(0, 0, 9999), 0);
        due.is("seed 10,000", x, x.tally(0, 0, 10000, 1), -1, 5);
        due.is("seed -1", x, x.tally(0, 0, -1, 1), -1, 5);
        due.is("seed -1, many 2", x, x.tally(0, 0, -1, 2), -1, 5);
        due.is("seed 9,999 is played", x, x.play(0, 0, 9999) >= 0, true, 0);
        due.is("seed 10,000 is not", x, x.play(0, 0, 10000), -1, 5);
        due.is("seed -1 is not", x, x.play(0, 0, -1), -1, 5);
        due.is("tally of one door none opens", x, x.tally(0, 1, 7, 30), 0, 0);
        due.fraction("five seconds each", x, 5, 1);
        Due.rule(x, "loop 3;try;go;end;");
        due.is("all are open", x, x.tally(0, 0, 9970, 30), 30, 0);
        Due.rule(x, "");
        due.is("none is open", x, x.tally(0, 0, 9970, 30), 0, 0);
        due.fraction("no seconds", x, 0, 1);
        int[] open = new int[30];
        int[] seconds = new int[30];
        Due.rule(x, "feel f;when felt f=0;try;end;go;when felt f=0;go;end;try;");
        for (int seed = 0; seed < 30; seed++) {
            open[seed] = x.play(0, 0, 5000 + seed);
            seconds[seed] = x.played(0);
        }
        int opened = 0;
        int together = 0;
        for (int many = 1; many <= 30; many++) {
            opened += open[many - 1];
            together += seconds[many - 1];
            due.is("from 5,000 on, many " + many, x, x.tally(0, 0, 5000, many), opened, 0);
            due.is("the mean, many " + many, x.top() * many, together * x.bottom());
        }
        due.is("both were among them", opened > 0 && opened < 30, true);
        due.is("2 ahead of 5", x, x.tally(2, 0, -1, 99), -1, 2);
        due.is("2 ahead of 5", x, x.tally(0, 2, 10000, 0), -1, 2);
        due.is("5 ahead of 8", x, x.tally(1, 0, 0, 31), -1, 5);
        due.is("5 ahead of 8", x, x.tally(1, 0, 9999, 2), -1, 5);
        due.is("8", x, x.tally(1, 0, 9999, 1), -1, 8);
    }
}
