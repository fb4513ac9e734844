/** Promises 10, 11, 12: the faults of houses and rules, each with its place. */
public final class FaultsTest {
    private static final Due due = new Due();
    private static final String TEN = "key a;key b;key c;key d;key e;key f;key g;key h;key i;key j;";

    public static void main(String[] args) {
        tokens();
        eachByte();
        longTokens();
        standing();
        reserved();
        endOfText();
        nameLengths();
        names();
        numbers();
        eachNumber();
        again();
        order();
        tooMany();
        feels();
        feelsOfMore();
        numbersOfKeys();
        namesTooMany();
        leastKind();
        firstAlongTheText();
        nothingStays();
        rules();
        ruleTokens();
        ruleNumbers();
        ruleLeastKind();
        ruleLimits();
        due.end("FaultsTest");
    }

    /** The place is where the text's last "^" stands, which is cut out. */
    private static void house(int kind, String marked) {
        int place = marked.lastIndexOf('^');
        String text = marked.substring(0, place) + marked.substring(place + 1);
        DarkRing x = new DarkRing();
        due.is("[" + text + "]", x, Due.house(x, text), -1, 10);
        due.is("[" + text + "] fault", x.fault(0), kind);
        due.is("[" + text + "] place", x.fault(1), place);
    }

    private static void fine(int keys, String text) {
        DarkRing x = new DarkRing();
        due.is("[" + text + "]", x, Due.house(x, text), keys, 0);
        due.is("[" + text + "] fault", x.fault(0), 0);
        due.is("[" + text + "] place", x.fault(1), -1);
    }

    private static void tokens() {
        house(1, "^.");
        house(1, "  ^A");
        house(1, "key a;^\t");
        house(1, "key a;^\u00e9");
        house(1, "turned ^10000;");
        house(1, "turned ^00001;");
        house(1, "key ^12345;");
        house(1, "key a^:");
        fine(1, "\n key\na ; \n");
        fine(1, "feature f steps2turned;key a1;turned0016;");
    }

    /** Of all bytes: 10 and 32 are blanks, letters, digits, ; < > = begin a TOKEN, which can't stand here alone. */
    private static void eachByte() {
        for (int c = 0; c < 256; c++) {
            boolean isBlank = c == 10 || c == 32;
            boolean isToken = c >= 'a' && c <= 'z' || c >= '0' && c <= '9' || c >= ';' && c <= '>';
            DarkRing x = new DarkRing();
            x.feed(c << 24, 0, 0, 0, 0);
            due.is("byte " + c, x, x.house(1), isBlank ? 0 : -1, isBlank ? 0 : 10);
            due.is("byte " + c + ", fault(0)", x.fault(0), isBlank ? 0 : isToken ? 2 : 1);
            due.is("byte " + c + ", fault(1)", x.fault(1), isBlank ? -1 : 0);
            x.feed('k' << 24 | 'e' << 16 | 'y' << 8 | c, 'a' << 24 | ';' << 16, 0, 0, 0);
            due.is("key, byte " + c + ", a;", x, x.house(6), isBlank ? 1 : -1, isBlank ? 0 : 10);
            x.feed(c << 24, 0, 0, 0, 0);
            due.is("byte " + c + " as a rule", x, x.rule(1), isBlank ? 0 : -1, isBlank ? 0 : 10);
            due.is("byte " + c + " as a rule, fault(0)", x.fault(0), isBlank ? 0 : isToken ? 2 : 1);
        }
    }

    /** TOKENS go on as long as they go; what is not of their kind ends them. */
    private static void longTokens() {
        house(2, "^keya;");
        house(2, "key ab ^ab;");
        fine(1, "key ab;ring r ab;");
        house(3, "key ab;ring r ^a;");
        house(3, "key a;ring r ^ab;");
        house(8, "key a^7;");
        house(2, "turned 1^a;");
        house(2, "turned^;");
        house(2, "turned 16 ^1;");
        fine(0, "turned16;");
        fine(0, "turned 0000;");
        fine(0, "turned 0016;");
        house(1, "turned ^00016;");
        house(1, "turned ^123456789;");
        house(4, "turned ^9999;");
        house(1, "turned ^10000;");
        house(2, "key a;^;");
        fine(2, "key\na\n;key b ;\n\n");
        house(2, "^abcdefghijklmnopqrstuvwxyz");
    }

    /** What NAMES can't be, and words of RULES, which they can be. */
    private static void reserved() {
        String[] words = {"feature", "steps", "turned", "feels", "key", "ring", "door", "wanted", "by", "seconds", "feel",
            "try", "go", "drop", "round"};
        for (String word : words) {
            house(2, "key ^" + word + ";");
            house(2, "feature ^" + word + " steps 2;");
            house(2, "ring ^" + word + ";");
            house(2, "key a;door ^" + word + " wanted 1 by a;");
            house(2, "key a;ring r ^" + word + ";");
            house(2, "key a;door d wanted 1 by ^" + word + ";");
            house(2, "round ^" + word + ";");
            house(2, "feels ^" + word + " 16;");
            fine(1, "key " + word + "x;");
            fine(1, "key x" + word.substring(1) + ";");
            rule(2, "feel ^" + word + ";");
            rule(2, "when felt ^" + word + " = 1;end;");
        }
        String[] free = {"stop", "turn", "when", "end", "loop", "felt", "sure", "tried", "step", "house", "f"};
        for (String word : free) {
            fine(1, "key " + word + ";ring r " + word + ";");
        }
    }

    /** A text that ends at any place but behind a ; has FAULT 2 at its length, blanks at its end counted. */
    private static void endOfText() {
        String[] parts = {"feature", "f", "steps", "2", "turned", ";", "feels", "f", "8", "8", "16", "0", ";", "key", "a", "0",
            ";", "ring", "r", "a", ";", "door", "d", "wanted", "3", "by", "a", ";", "seconds", "feel", "2", "try", "3", "go",
            "4", "drop", "5", ";", "turned", "9", ";", "round", "d", "d", ";"};
        String text = "";
        for (String part : parts) {
            text += part;
            if (part.equals(";")) {
                fine(text.contains("key") ? 1 : 0, text);
                fine(text.contains("key") ? 1 : 0, text + " \n");
            } else {
                house(2, text + "^");
                house(2, text + " ^");
                house(2, text + "\n \n^");
            }
            text += " ";
        }
        String[] rule = {"feel", "f", ";", "try", ";", "when", "felt", "f", "<", "1", ";", "end", ";", "loop", "2", ";", "end",
            ";"};
        text = "";
        int steps = 0;
        boolean isOpen = false;
        for (String part : rule) {
            text += part;
            boolean begins = part.equals("when") || part.equals("loop");
            if (begins || part.equals("feel") || part.equals("try")) steps++;
            isOpen = begins || isOpen && !part.equals("end");
            if (!part.equals(";") || isOpen) {
                rule(2, text + "^");
                rule(2, text + "  ^");
            } else {
                fineRule(steps, text + " ");
            }
            text += " ";
        }
    }

    /** 1 to 8 letters; NAMES that differ in one letter alone are two. */
    private static void nameLengths() {
        fine(2, "key a;key b;");
        fine(1, "feature a steps 2;feels a 16 0 0 16;key b 0;");
        fine(1, "key b;ring a b;");
        fine(1, "key b;door a wanted 1 by b;round a;");
        fine(1, "key z;ring r z;");
        fine(2, "key a;key aa;");
        fine(2, "key ab;key ba;");
        fine(3, "key abc;key acb;key cab;");
        fine(2, "key abcdefgh;key abcdefgi;");
        fine(2, "key bbcdefgh;key abcdefgh;");
        fine(2, "key zzzzzzzz;key zzzzzzz;");
        fine(3, "key za;key yz;key aza;");
        house(3, "key zzzzzzzz;key ^zzzzzzzz;");
        house(2, "key ^abcdefghi;");
        house(2, "key abcdefgh;ring r ^abcdefghi;");
        house(2, "ring ^abcdefghi;");
        house(2, "feature ^abcdefghi steps 2;");
        house(2, "door ^abcdefghi wanted 1 by a;");
        house(2, "key a;door d wanted 1 by ^abcdefghi;");
        house(2, "round ^abcdefghi;");
        house(2, "feels ^abcdefghi 1;");
    }

    private static void standing() {
        house(2, "^go;");
        house(2, "^;");
        house(2, "^7");
        house(2, "key^");
        house(2, "key a  ^");
        house(2, "key ^abcdefghi;");
        fine(1, "key abcdefgh;");
        house(2, "key ^key;");
        house(2, "ring ^round;");
        house(2, "key a^<;");
        house(2, "key a ^b;");
        house(2, "feature f ^step 2;");
        house(2, "feature f steps ^;");
        house(2, "feature f steps 2 ^by;");
        house(2, "feature f steps 2 turned ^turned;");
        house(2, "feature f steps 2;feels f^;");
        house(2, "door d wanted 1 by^;");
        house(2, "door d wanted ^by a;");
        house(2, "round^;");
        house(2, "key a;ring r a ^7;");
        house(2, "seconds feel 1 try 1 go 1^;");
        house(2, "seconds ^try 1;");
        house(2, "turned ^a;");
        house(2, "key a; ^abcdefghi b;");
        fine(2, "key stop;key felt;");
    }

    private static void names() {
        house(3, "key a;key ^a;");
        house(3, "key a;ring ^a;");
        house(3, "ring a;door ^a wanted 1 by a;");
        house(3, "feature f steps 2;key ^f 0;");
        house(3, "feels ^f 16;");
        house(3, "key a;feels ^a 16;");
        house(3, "ring r ^a;");
        house(3, "ring r ^r;");
        house(3, "key a;door d wanted 1 by a ^r;");
        house(3, "key a;door d wanted 1 by a;round d ^a;");
        house(3, "round ^d;");
    }

    private static void numbers() {
        house(4, "feature f steps ^1;");
        house(4, "feature f steps ^5;");
        house(4, "feature f steps 3;key a ^3;");
        house(4, "feature f steps 2;feels f 16 0 0 ^17;");
        house(4, "key a;door d wanted ^100 by a;");
        house(4, "seconds feel ^0 try 1 go 1 drop 1;");
        house(4, "seconds feel 99 try 1 go 1 drop ^100;");
        house(4, "turned ^17;");
        house(4, "turned ^9999;");
        fine(1, "feature f steps 4;key a 3;door d wanted 99 by a;door e wanted 0 by a;turned 16;");
        house(7, "key a;^feature f steps 9;");
    }

    /** The first and the last NUMBER that can be, of each kind, and their neighbours. */
    private static void eachNumber() {
        for (int steps = 2; steps <= 4; steps++) {
            String f = "feature f steps " + steps + ";";
            fine(0, f);
            fine(2, f + "key a 0;key b " + (steps - 1) + ";");
            house(4, f + "key a ^" + steps + ";");
            house(4, f + "key a ^9999;");
        }
        house(4, "feature f steps ^0;");
        house(4, "feature f steps ^1;");
        house(4, "feature f steps ^5;");
        house(4, "feature f steps ^0005;");
        fine(1, "key a;door d wanted 0 by a;");
        fine(1, "key a;door d wanted 99 by a;");
        house(4, "key a;door d wanted ^100 by a;");
        fine(0, "turned 0;");
        fine(0, "turned 16;");
        house(4, "turned ^17;");
        String[] acts = {"feel", "try", "go", "drop"};
        for (int at = 0; at < 4; at++) {
            for (int number : new int[] {0, 1, 99, 100}) {
                String text = "seconds";
                for (int act = 0; act < 4; act++) {
                    text += " " + acts[act] + " " + (act == at && (number == 0 || number == 100) ? "^" : "");
                    text += act == at ? number : 7;
                }
                if (number == 0 || number == 100) {
                    house(4, text + ";");
                } else {
                    fine(0, text + ";");
                }
            }
        }
        String f = "feature f steps 2;feels f ";
        fine(0, f + "0 16 16 0;");
        house(4, f + "^17 0 0 16;");
        house(4, f + "0 ^17 0 16;");
        house(4, f + "0 16 ^9999 16;");
    }

    private static void again() {
        house(5, "feature f steps 2;feels f 16 0 0 16;feels ^f 8 8 8 8;");
        house(5, "turned 1;^turned 1;");
        house(5, "turned 1;^turned");
        house(5, "seconds feel 1 try 1 go 1 drop 1;^seconds");
        house(5, "key a;door d wanted 1 by a;round d;^round d;");
        house(5, "key a;ring r a;ring q ^a;");
        house(5, "key a;ring r a ^a;");
        house(5, "key a;key b;door d wanted 1 by a b ^a;");
        fine(2, "key a;key b;door d wanted 1 by a b;door e wanted 1 by a b;");
    }

    /** What may stand behind what: a FEATURE ahead of KEYS alone, all else as soon as what it names is told. */
    private static void order() {
        fine(0, "ring r;seconds feel 1 try 1 go 1 drop 1;turned 3;feature f steps 2;feels f 16 0 0 16;");
        fine(1, "feature f steps 2;key a 1;feels f 16 0 0 16;");
        fine(2, "key a;ring r a;key b;door d wanted 1 by b a;round d;ring s b;turned 3;");
        house(7, "key a;^feature f steps 2;");
        house(7, "feature f steps 2;key a 0;^feature g steps 2;");
        house(7, "key a;^feature");
        house(3, "ring r ^a;key a;");
        house(3, "round ^d;key a;door d wanted 1 by a;");
        house(3, "feels ^f 16 0 0 16;feature f steps 2;");
        house(3, "door d wanted 1 by ^d;");
        house(3, "feature f steps 2;ring r ^f;");
        house(3, "feature f steps 2;feels f 16 0 0 16;feels ^g 1;");
        house(3, "feature f steps 2;feature ^f steps 2;");
        house(3, "key a;door d wanted 1 by a;door ^d wanted 1 by a;");
        house(3, "key a;door d wanted 1 by a;ring ^d;");
        house(3, "feature f steps 2;ring ^f;");
        house(3, "key a;ring r a;door ^r wanted 1 by a;");
    }

    private static void tooMany() {
        house(6, "feature f steps 2;feature g steps 2;feature h steps 2;^feature i steps 2;");
        house(6, "feature f steps 2;feature g steps 2;feature h steps 2;key a 0 0 0;^feature i");
        house(6, TEN + "^key k;");
        fine(10, TEN + "ring r a b c d e f g h i j;");
        house(6, "ring r;ring q;ring p;^ring o;");
        String doors = "key a;";
        for (int i = 0; i < 5; i++) doors += "door d" + (char) ('a' + i) + " wanted 1 by a;";
        fine(1, doors);
        house(6, doors + "^door d wanted 1 by a;");
        String twelve = "key a;door d wanted 1 by a;round d d d d d d d d d d d d";
        fine(1, twelve + ";");
        house(6, twelve + " ^d;");
        house(3, twelve + " ^e;");
        house(2, twelve + " ^key;");
        house(7, "key a;^feature f steps 2;");
    }

    private static void feels() {
        house(8, "feature f steps 2;feels f 16 0 0 16 ^0;");
        house(4, "feature f steps 2;feels f 16 0 0 16 ^17;");
        house(8, "feature f steps 2;feels f 16 0 0^;");
        house(9, "feature f steps 2;feels f 16 ^1 0 16;");
        house(9, "feature f steps 3;feels f 16 0 0 5 5 ^5;");
        house(9, "feature f steps 2;feels f 0 ^0;");
        house(8, "feature f steps 3;feels f 16 16^;");
        house(8, "key a ^0;");
        house(8, "feature f steps 2;key a^;");
        house(8, "feature f steps 2;key a 1 ^1;");
        house(8, "feature f steps 2;key a 1 ^9;");
        house(2, "feature f steps 2;key a ^a;");
        fine(1, "feature f steps 2;key a 0;feels f 1 15 16 0;");
    }

    /** So many NUMBERS as STEPS by STEPS, each row 16 together. */
    private static void feelsOfMore() {
        for (int steps = 2; steps <= 4; steps++) {
            String good = "feature f steps " + steps + ";feels f";
            for (int i = 0; i < steps * steps; i++) {
                boolean isLast = i % steps == steps - 1;
                int rest = 16 - 3 * (steps - 1);
                house(2, good + "^");
                if (i == 0) {
                    house(2, good + "^;");
                } else {
                    house(8, good + "^;");
                    house(2, good + " ^a;");
                }
                house(4, good + " ^17");
                if (isLast) {
                    house(9, good + " ^" + (rest - 1));
                    house(9, good + " ^" + (rest + 1));
                    house(9, good + " ^0;");
                }
                good += " " + (isLast ? rest : 3);
            }
            fine(0, good + ";");
            house(8, good + " ^0");
            house(8, good + " ^16;");
            house(2, good + " ^f;");
        }
        house(9, "feature f steps 2;feels f 8 8 16 ^16;");
        house(9, "feature f steps 4;feels f 16 16 16 ^16;");
        fine(0, "feature f steps 2;feature g steps 2;feels g 16 0 0 16;feels f 0 16 16 0;");
        house(5, "feature f steps 2;feature g steps 2;feels g 16 0 0 16;feels ^g 17;");
    }

    /** Of none to three FEATURES: a STEP of each, not one less, not one more. */
    private static void numbersOfKeys() {
        String features = "";
        for (int n = 0; n <= 3; n++) {
            String key = "key a";
            for (int i = 0; i < n; i++) {
                house(8, features + key + "^;");
                house(2, features + key + "^");
                house(2, features + key + " ^b;");
                key += " " + i % 2;
            }
            fine(1, features + key + ";");
            house(8, features + key + " ^0;");
            house(8, features + key + " ^4 9;");
            house(8, features + key + " ^0");
            features += "feature f" + (char) ('a' + n) + " steps 2;";
        }
    }

    /** Behind all ten KEYS on a RING, at a DOOR there is no other one that may come. */
    private static void namesTooMany() {
        String ring = TEN + "ring r a b c d e f g h i j ";
        house(5, ring + "^j;");
        house(5, ring + "^a;");
        house(3, ring + "^k;");
        house(2, ring + "^7;");
        house(2, ring + "^");
        house(5, ring + ";ring q ^a;");
        String door = TEN + "door x wanted 1 by a b c d e f g h i j ";
        fine(10, door + ";");
        house(5, door + "^j;");
        house(5, door + "^a;");
        house(3, door + "^k;");
        house(2, door + "^7;");
        house(2, door + "^");
        fine(10, TEN + "door x wanted 1 by j;door y wanted 1 by j;ring r j;ring q a;");
    }

    /** Of one TOKEN the least kind. */
    private static void leastKind() {
        house(1, "key ^12345;");
        house(1, "feature f steps 2;key a 0 ^12345;");
        house(1, "feature f steps 2;feels f 16 0 0 16 ^12345;");
        house(1, "feature f steps 2;feels f 16 ^12345;");
        house(1, "turned ^12345;");
        house(2, "feature f steps 2;feels f ^;");
        house(3, "feels ^f 1;");
        house(4, "feature f steps 2;feels f 16 0 0 16 ^17;");
        house(4, "feature f steps 2;feels f 16 ^17;");
        String three = "feature f steps 2;feature g steps 2;feature h steps 2;";
        house(6, three + "key a 0 0 0;^feature i steps 2;");
        String twelve = "key a;door d wanted 1 by a;round d d d d d d d d d d d d ";
        house(1, twelve + "^?;");
        house(2, twelve + "^7;");
        house(2, twelve + "^round;");
        house(3, twelve + "^a;");
        house(6, twelve + "^d;");
        house(2, "key a;key b;key c;key d;key e;key f;key g;key h;key i;key j;^keys;");
    }

    /** Of two FAULTS the first along the text, whatever their kinds. */
    private static void firstAlongTheText() {
        house(9, "feature f steps 2;feels f 8 ^7;turned 17;?");
        house(8, "key a ^1;key a;");
        house(7, "key a;^feature f steps 2;key a;");
        house(5, "turned 1;^turned 17;?");
        house(5, "key a;ring r a ^a;ring r;");
        house(4, "turned ^17?");
        house(3, "key a;key ^a 9?");
        house(2, "key ^key 12345;");
        rule(7, "loop 2;loop 2;loop 2;^loop 10;feel h;");
        rule(4, "loop ^10;feel h;?");
        rule(3, "feel ^h;end;?");
        rule(2, "^end;feel h;?");
    }

    /** A text with a FAULT leaves nothing for the next one. */
    private static void nothingStays() {
        String text = "feature f steps 2;feels f 16 0 0 16;key a 0;ring r a;door d wanted 1 by a;"
                + "seconds feel 1 try 1 go 1 drop 1;turned 3;round d;";
        DarkRing x = new DarkRing();
        for (int i = 0; i < 3; i++) {
            due.is("with a fault", x, Due.house(x, text + "?"), -1, 10);
            due.is("its kind", x.fault(0), 1);
            due.is("its place", x.fault(1), text.length());
            due.is("without", x, Due.house(x, text), 1, 0);
            due.is("its fault", x.fault(0), 0);
            due.is("no place", x.fault(1), -1);
            due.is("a rule with a fault", x, Due.rule(x, "loop 2;loop 2;loop 2;go;"), -1, 10);
            due.is("a rule without", x, Due.rule(x, "loop 2;loop 2;loop 2;end;end;end;"), 3, 0);
            due.is("an end too many", x, Due.rule(x, "end;"), -1, 10);
        }
    }

    private static final String FEATURES = "feature f steps 2;feature g steps 4;feature stop steps 2;";

    private static void rule(int kind, String marked) {
        int place = marked.lastIndexOf('^');
        String text = marked.substring(0, place) + marked.substring(place + 1);
        DarkRing x = new DarkRing();
        Due.house(x, FEATURES);
        Due.rule(x, "try;go;");
        due.is("[" + text + "]", x, Due.rule(x, text), -1, 10);
        due.is("[" + text + "] fault", x.fault(0), kind);
        due.is("[" + text + "] place", x.fault(1), place);
    }

    private static void fineRule(int steps, String text) {
        DarkRing x = new DarkRing();
        Due.house(x, FEATURES);
        due.is("[" + text + "]", x, Due.rule(x, text), steps, 0);
        due.is("[" + text + "] fault", x.fault(0), 0);
        due.is("[" + text + "] place", x.fault(1), -1);
    }

    private static void rules() {
        fineRule(0, "");
        fineRule(0, " \n ");
        fineRule(6, "feel f;try;go;turn;drop;stop;");
        fineRule(1, "feel stop;");
        fineRule(3, "when felt g<3;when sure 16;when tried;end;end;end;");
        fineRule(2, "loop9;loop 1;end;end;");
        rule(1, "try^,");
        rule(1, "loop ^00001;");
        rule(2, "^end;");
        rule(2, "try;^end;");
        rule(2, "loop 2;try;^");
        rule(2, "loop 2;try; ^");
        rule(2, "loop 2;end^");
        rule(2, "try^");
        rule(2, "^felt f;");
        rule(2, "feel ^feel;");
        rule(2, "feel ^abcdefghi;");
        rule(2, "feel ^3;");
        rule(2, "when ^often;end;");
        rule(2, "when felt f ^;end;");
        rule(2, "when felt f<^;end;");
        rule(2, "when tried ^3;end;");
        rule(2, "when sure ^f;end;");
        rule(2, "loop^;end;");
        rule(2, "^key;");
        rule(3, "feel ^h;");
        rule(3, "when felt ^h<1;end;");
        rule(4, "when felt f=^4;end;");
        rule(4, "when sure ^17;end;");
        rule(4, "loop ^0;end;");
        rule(4, "loop ^10;end;");
    }

    private static void ruleTokens() {
        fineRule(3, "feel\nf;when felt f=1;end ;\nloop2;end;\n");
        rule(1, "go;^A");
        rule(1, "go^:");
        rule(1, "loop ^12345;end;");
        rule(1, "when sure ^00000;end;");
        rule(1, "when felt f ^!1;end;");
        rule(2, "^;");
        rule(2, "^7;");
        rule(2, "^<");
        rule(2, "^goon;");
        rule(2, "go ^go;");
        rule(2, "feel f ^1;");
        rule(2, "when ^f<1;end;");
        rule(2, "when felt f^;end;");
        rule(2, "when felt f ^1;end;");
        rule(2, "when felt f<^>1;end;");
        rule(2, "when sure^;end;");
        rule(2, "when sure ^=3;end;");
        rule(2, "when^;end;");
        rule(2, "when felt f<1 ^f;end;");
        rule(2, "loop ^f;end;");
        rule(2, "loop 2 ^go;end;");
        rule(2, "go;loop 2;end;^end;");
        rule(2, "loop 2;end ^go;");
        rule(2, "when tried;loop 2;end;go;^");
        rule(3, "feel ^x;");
        rule(3, "feel ^end;");
    }

    /** NAMES of other things are no FEATURES; NUMBERS at both ends; each COMPARES. */
    private static void ruleNumbers() {
        DarkRing x = new DarkRing();
        Due.house(x, "feature f steps 2;key a 0;ring r a;door d wanted 1 by a;");
        for (String name : new String[] {"a", "r", "d", "ff"}) {
            due.is("feel " + name, x, Due.rule(x, "feel " + name + ";"), -1, 10);
            due.is("feel " + name + ", fault(0)", x.fault(0), 3);
            due.is("feel " + name + ", fault(1)", x.fault(1), 5);
        }
        for (char compares : new char[] {'<', '>', '='}) {
            for (int step = 0; step < 4; step++) fineRule(1, "when felt f " + compares + " " + step + ";end;");
            rule(4, "when felt f " + compares + " ^4;end;");
            rule(4, "when felt f " + compares + " ^9999;end;");
        }
        fineRule(1, "when sure 0;end;");
        fineRule(1, "when sure 16;end;");
        rule(4, "when sure ^17;end;");
        for (int times = 1; times < 10; times++) fineRule(1, "loop " + times + ";end;");
        fineRule(1, "loop 0009;end;");
        rule(4, "loop ^0;end;");
        rule(4, "loop ^10;end;");
    }

    private static void ruleLeastKind() {
        String thirty = "go;".repeat(30);
        rule(1, thirty + "^?");
        rule(1, thirty + "^12345");
        rule(2, thirty + "^end;");
        rule(2, thirty + "^felt;");
        rule(6, thirty + "^stop;");
        rule(6, thirty + "^feel h;");
        rule(6, thirty + "^when tried;end;");
        rule(6, "loop 2;when tried;loop 3;" + "go;".repeat(27) + "^loop 10;");
        rule(7, "loop 2;when tried;loop 3;" + "go;".repeat(26) + "^loop 10;");
        rule(7, "when tried;when tried;when tried;^when felt h;");
        rule(7, "loop 2;end;loop 2;loop 2;loop 2;^loop 2;");
        fineRule(30, "when tried;loop 9;when sure 3;" + "go;".repeat(26) + "end;loop 4;end;end;end;");
        fineRule(30, "loop 9;end;".repeat(26) + "go;go;go;go;");
    }

    private static void ruleLimits() {
        String thirty = "go;go;go;go;go;go;go;go;go;go;".repeat(3);
        fineRule(30, thirty);
        fineRule(30, thirty.substring(3) + "loop 2;end;");
        rule(6, thirty + "^go;");
        rule(6, thirty + "^loop 2;end;");
        rule(2, thirty + "^gone;");
        rule(7, "loop 2;when tried;loop 2;^when tried;end;end;end;end;");
        rule(7, "loop 2;loop 2;loop 2;^loop");
        rule(6, "loop 2;loop 2;loop 2;" + thirty.substring(9) + "^loop 2;");
        fineRule(4, "loop 2;loop 2;loop 2;end;end;loop 3;end;end;");
        DarkRing x = new DarkRing();
        Due.feed(x, " ".repeat(300));
        due.is("300 bytes", x, x.rule(300), 0, 0);
        Due.feed(x, " ".repeat(320));
        due.is("301 bytes", x, x.rule(301), -1, 5);
        due.is("-1 bytes", x, x.rule(-1), -1, 5);
        due.is("they stay", x, x.house(320), 0, 0);
        due.is("none left", x, x.rule(1), -1, 5);
    }
}
