/** Promises 10, 11, 12: the faults of houses and rules, each with its place. */
public final class FaultsTest {
    private static final Due due = new Due();
    private static final String TEN = "key a;key b;key c;key d;key e;key f;key g;key h;key i;key j;";

    public static void main(String[] args) {
        tokens();
        standing();
        names();
        numbers();
        again();
        tooMany();
        feels();
        rules();
        ruleLimits();
        due.end("FaultsTest");
    }

    /** The place is where the text's last "^" stands, which is cut out. */
    private static void house(int kind, String marked) {
        int place = marked.lastIndexOf('^');
        String text = marked.substring(0, place) + marked.substring(place + 1);
        DarkRing x = new DarkRing();
        due.is("[" + text + "]", x, Due.house(x, text), -1, 10);
        due.is("[" + text + "] fault", x.fault(0), kind);
        due.is("[" + text + "] place", x.fault(1), place);
    }

    private static void fine(int keys, String text) {
        DarkRing x = new DarkRing();
        due.is("[" + text + "]", x, Due.house(x, text), keys, 0);
        due.is("[" + text + "] fault", x.fault(0), 0);
        due.is("[" + text + "] place", x.fault(1), -1);
    }

    private static void tokens() {
        house(1, "^.");
        house(1, "  ^A");
        house(1, "key a;^\t");
        house(1, "key a;^\u00e9");
        house(1, "turned ^10000;");
        house(1, "turned ^00001;");
        house(1, "key ^12345;");
        house(1, "key a^:");
        fine(1, "\n key\na ; \n");
        fine(1, "feature f steps2turned;key a1;turned0016;");
    }

    private static void standing() {
        house(2, "^go;");
        house(2, "^;");
        house(2, "^7");
        house(2, "key^");
        house(2, "key a  ^");
        house(2, "key ^abcdefghi;");
        fine(1, "key abcdefgh;");
        house(2, "key ^key;");
        house(2, "ring ^round;");
        house(2, "key a^<;");
        house(2, "key a ^b;");
        house(2, "feature f ^step 2;");
        house(2, "feature f steps ^;");
        house(2, "feature f steps 2 ^by;");
        house(2, "feature f steps 2 turned ^turned;");
        house(2, "feature f steps 2;feels f^;");
        house(2, "door d wanted 1 by^;");
        house(2, "door d wanted ^by a;");
        house(2, "round^;");
        house(2, "key a;ring r a ^7;");
        house(2, "seconds feel 1 try 1 go 1^;");
        house(2, "seconds ^try 1;");
        house(2, "turned ^a;");
        house(2, "key a; ^abcdefghi b;");
        fine(2, "key stop;key felt;");
    }

    private static void names() {
        house(3, "key a;key ^a;");
        house(3, "key a;ring ^a;");
        house(3, "ring a;door ^a wanted 1 by a;");
        house(3, "feature f steps 2;key ^f 0;");
        house(3, "feels ^f 16;");
        house(3, "key a;feels ^a 16;");
        house(3, "ring r ^a;");
        house(3, "ring r ^r;");
        house(3, "key a;door d wanted 1 by a ^r;");
        house(3, "key a;door d wanted 1 by a;round d ^a;");
        house(3, "round ^d;");
    }

    private static void numbers() {
        house(4, "feature f steps ^1;");
        house(4, "feature f steps ^5;");
        house(4, "feature f steps 3;key a ^3;");
        house(4, "feature f steps 2;feels f 16 0 0 ^17;");
        house(4, "key a;door d wanted ^100 by a;");
        house(4, "seconds feel ^0 try 1 go 1 drop 1;");
        house(4, "seconds feel 99 try 1 go 1 drop ^100;");
        house(4, "turned ^17;");
        house(4, "turned ^9999;");
        fine(1, "feature f steps 4;key a 3;door d wanted 99 by a;door e wanted 0 by a;turned 16;");
        house(7, "key a;^feature f steps 9;");
    }

    private static void again() {
        house(5, "feature f steps 2;feels f 16 0 0 16;feels ^f 8 8 8 8;");
        house(5, "turned 1;^turned 1;");
        house(5, "turned 1;^turned");
        house(5, "seconds feel 1 try 1 go 1 drop 1;^seconds");
        house(5, "key a;door d wanted 1 by a;round d;^round d;");
        house(5, "key a;ring r a;ring q ^a;");
        house(5, "key a;ring r a ^a;");
        house(5, "key a;key b;door d wanted 1 by a b ^a;");
        fine(2, "key a;key b;door d wanted 1 by a b;door e wanted 1 by a b;");
    }

    private static void tooMany() {
        house(6, "feature f steps 2;feature g steps 2;feature h steps 2;^feature i steps 2;");
        house(6, "feature f steps 2;feature g steps 2;feature h steps 2;key a 0 0 0;^feature i");
        house(6, TEN + "^key k;");
        fine(10, TEN + "ring r a b c d e f g h i j;");
        house(6, "ring r;ring q;ring p;^ring o;");
        String doors = "key a;";
        for (int i = 0; i < 5; i++) doors += "door d" + (char) ('a' + i) + " wanted 1 by a;";
        fine(1, doors);
        house(6, doors + "^door d wanted 1 by a;");
        String twelve = "key a;door d wanted 1 by a;round d d d d d d d d d d d d";
        fine(1, twelve + ";");
        house(6, twelve + " ^d;");
        house(3, twelve + " ^e;");
        house(2, twelve + " ^key;");
        house(7, "key a;^feature f steps 2;");
    }

    private static void feels() {
        house(8, "feature f steps 2;feels f 16 0 0 16 ^0;");
        house(4, "feature f steps 2;feels f 16 0 0 16 ^17;");
        house(8, "feature f steps 2;feels f 16 0 0^;");
        house(9, "feature f steps 2;feels f 16 ^1 0 16;");
        house(9, "feature f steps 3;feels f 16 0 0 5 5 ^5;");
        house(9, "feature f steps 2;feels f 0 ^0;");
        house(8, "feature f steps 3;feels f 16 16^;");
        house(8, "key a ^0;");
        house(8, "feature f steps 2;key a^;");
        house(8, "feature f steps 2;key a 1 ^1;");
        house(8, "feature f steps 2;key a 1 ^9;");
        house(2, "feature f steps 2;key a ^a;");
        fine(1, "feature f steps 2;key a 0;feels f 1 15 16 0;");
    }

    private static final String FEATURES = "feature f steps 2;feature g steps 4;feature stop steps 2;";

    private static void rule(int kind, String marked) {
        int place = marked.lastIndexOf('^');
        String text = marked.substring(0, place) + marked.substring(place + 1);
        DarkRing x = new DarkRing();
        Due.house(x, FEATURES);
        Due.rule(x, "try;go;");
        due.is("[" + text + "]", x, Due.rule(x, text), -1, 10);
        due.is("[" + text + "] fault", x.fault(0), kind);
        due.is("[" + text + "] place", x.fault(1), place);
    }

    private static void fineRule(int steps, String text) {
        DarkRing x = new DarkRing();
        Due.house(x, FEATURES);
        due.is("[" + text + "]", x, Due.rule(x, text), steps, 0);
        due.is("[" + text + "] fault", x.fault(0), 0);
        due.is("[" + text + "] place", x.fault(1), -1);
    }

    private static void rules() {
        fineRule(0, "");
        fineRule(0, " \n ");
        fineRule(6, "feel f;try;go;turn;drop;stop;");
        fineRule(1, "feel stop;");
        fineRule(3, "when felt g<3;when sure 16;when tried;end;end;end;");
        fineRule(2, "loop9;loop 1;end;end;");
        rule(1, "try^,");
        rule(1, "loop ^00001;");
        rule(2, "^end;");
        rule(2, "try;end;".replace("end", "^end"));
        rule(2, "loop 2;try;^");
        rule(2, "loop 2;try; ^");
        rule(2, "loop 2;end^");
        rule(2, "try^");
        rule(2, "^felt f;");
        rule(2, "feel ^feel;");
        rule(2, "feel ^abcdefghi;");
        rule(2, "feel ^3;");
        rule(2, "when ^often;end;");
        rule(2, "when felt f ^;end;");
        rule(2, "when felt f<^;end;");
        rule(2, "when tried ^3;end;");
        rule(2, "when sure ^f;end;");
        rule(2, "loop^;end;");
        rule(2, "^key;");
        rule(3, "feel ^h;");
        rule(3, "when felt ^h<1;end;");
        rule(4, "when felt f=^4;end;");
        rule(4, "when sure ^17;end;");
        rule(4, "loop ^0;end;");
        rule(4, "loop ^10;end;");
    }

    private static void ruleLimits() {
        String thirty = "go;go;go;go;go;go;go;go;go;go;".repeat(3);
        fineRule(30, thirty);
        fineRule(30, thirty.substring(3) + "loop 2;end;");
        rule(6, thirty + "^go;");
        rule(6, thirty + "^loop 2;end;");
        rule(2, thirty + "^gone;");
        rule(7, "loop 2;when tried;loop 2;^when tried;end;end;end;end;");
        rule(7, "loop 2;loop 2;loop 2;^loop");
        rule(6, "loop 2;loop 2;loop 2;" + thirty.substring(9) + "^loop 2;");
        fineRule(4, "loop 2;loop 2;loop 2;end;end;loop 3;end;end;");
        DarkRing x = new DarkRing();
        Due.feed(x, " ".repeat(300));
        due.is("300 bytes", x, x.rule(300), 0, 0);
        Due.feed(x, " ".repeat(320));
        due.is("301 bytes", x, x.rule(301), -1, 5);
        due.is("-1 bytes", x, x.rule(-1), -1, 5);
        due.is("they stay", x, x.house(320), 0, 0);
        due.is("none left", x, x.rule(1), -1, 5);
    }
}
