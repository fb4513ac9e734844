/** Promises 9, 10, 12 to 20: the tape, a house that is taken, what is asked of it. */
public final class HouseTest {
    private static final Due due = new Due();
    private static final String HOUSE = "feature size steps 3 turned; feature nick steps 2;\nfeels nick 12 4 0 16;"
            + "key a 0 0;key b 2 1;key c 1 0;key d 1 1;ring r c a;ring q;ring p d;"
            + "door cellar wanted 99 by c a;door attic wanted 0 by d;"
            + "seconds feel 2 try 5 go 3 drop 99;turned 16;round attic cellar attic;";

    public static void main(String[] args) {
        tape();
        tapeToTheBrim();
        partOfTheTape();
        taken();
        latestFault();
        things();
        most();
        steps();
        keysAndRings();
        placesOfKeys();
        inItsPlace();
        ofThatAheadNothing();
        due.end("HouseTest");
    }

    /** Promise 9, and of 10 and 11 the tape. */
    private static void tape() {
        DarkRing x = new DarkRing();
        x.back();
        for (int i = 1; i <= 45; i++) due.is("feed " + i, x.feed(0x20202020, 0x0A0A0A0A, 0x20202020, 0, -1), 20 * i);
        due.is("one feed more", x.feed(1, 2, 3, 4, 5), -1);
        due.is("feed has no status", x.status(), 8);
        due.is("house(901)", x, x.house(901), -1, 5);
        due.is("house(-1)", x, x.house(-1), -1, 5);
        due.is("rule(301)", x, x.rule(301), -1, 5);
        due.is("the tape stays with 5", x.feed(1, 2, 3, 4, 5), -1);
        due.is("fault(0) stays with 5", x.fault(0), -1);
        due.is("blanks alone", x, x.house(12), 0, 0);
        due.is("the tape is empty", x.feed(0x6B657920, 0x613B0000, 0, 0, 0), 20);
        due.is("highest byte first", x, x.house(6), 1, 0);
        due.is("the rest is gone", x, x.house(1), -1, 5);
        Due.feed(x, "key a;?");
        due.is("a fault", x, x.house(7), -1, 10);
        due.is("the tape is empty with 10, too", x.feed(0, 0, 0, 0, 0), 20);
        due.is("the byte 0 is no token", x, x.house(20), -1, 10);
        due.is("fault(0)", x.fault(0), 1);
        due.is("fault(1)", x.fault(1), 0);
        due.is("rule(0) of what is fed", x.feed(0x7472793B, 0, 0, 0, 0), 20);
        due.is("rule(4)", x, x.rule(4), 1, 0);
        due.is("the tape is empty behind rule()", x.feed(0, 0, 0, 0, 0), 20);
    }

    /** Promises 9, 10: 900 bytes are taken whole; what does not fit changes nothing. */
    private static void tapeToTheBrim() {
        DarkRing x = new DarkRing();
        String text = " ".repeat(860) + "key a;ring r a;door d wanted 7 by     a;";
        due.is("a text of 900", text.length(), 900);
        Due.feed(x, text.substring(0, 880));
        due.is("the last twenty", x.feed(0x64207761, 0x6E746564, 0x20372062, 0x79202020, 0x2020613B), 900);
        due.is("twenty more", x.feed(-1, -1, -1, -1, -1), -1);
        due.is("house(901)", x, x.house(901), -1, 5);
        due.is("twenty more still", x.feed(0, 0, 0, 0, 0), -1);
        due.is("house(900)", x, x.house(900), 1, 0);
        due.is("its door", x, x.door(0, 0), 7, 0);
        due.is("empty", x.feed(0, 0, 0, 0, 0), 20);
        due.is("house(21)", x, x.house(21), -1, 5);
        due.is("house(20) of zeros", x, x.house(20), -1, 10);
        x = new DarkRing();
        Due.feed(x, " ".repeat(881));
        due.is("900 of blanks", x, x.house(900), 0, 0);
        Due.feed(x, " ".repeat(895) + "key a");
        due.is("a fault at 900", x, x.house(900), -1, 10);
        due.is("its place", x.fault(1), 900);
        x = new DarkRing();
        due.is("the highest byte of each", x.feed(0x6B657920, 0x613B6B65, 0x7920623B, 0x6B657920, 0x633B2020), 20);
        due.is("house(18)", x, x.house(18), 3, 0);
        due.is("bytes above 127", x.feed(0x80FFFE81, 0, 0, 0, 0), 20);
        due.is("are no tokens", x, x.house(4), -1, 10);
        due.is("at the first", x.fault(1), 0);
    }

    /** Promises 10, 11: the first n bytes alone, from 0 to all. */
    private static void partOfTheTape() {
        String text = "key a;key b;?       ";
        int[] keys = {0, -1, -1, -1, -1, -1, 1, -1, -1, -1, -1, -1, 2, -1};
        int[] place = {-1, 0, 0, 3, 4, 5, -1, 6, 6, 9, 10, 11, -1, 12};
        for (int n = 0; n < keys.length; n++) {
            DarkRing x = new DarkRing();
            Due.feed(x, text);
            due.is("house(" + n + ")", x, x.house(n), keys[n], keys[n] == -1 ? 10 : 0);
            due.is("house(" + n + "), fault(1)", x.fault(1), place[n]);
            due.is("the tape is empty", x, x.rule(1), -1, 5);
        }
        DarkRing x = new DarkRing();
        Due.feed(x, text);
        due.is("house(20), all", x, x.house(20), -1, 10);
        Due.feed(x, text);
        due.is("house(21), one more", x, x.house(21), -1, 5);
        due.is("rule(21), one more", x, x.rule(21), -1, 5);
        due.is("rule(20)", x, x.rule(20), -1, 10);
        Due.feed(x, "go;try;turn;stop;go;");
        due.is("rule(20), all", x, x.rule(20), 5, 0);
        due.is("rule(1) of none", x, x.rule(1), -1, 5);
        Due.feed(x, "go;try;turn;stop;go;");
        due.is("rule(7)", x, x.rule(7), 2, 0);
    }

    /** Promises 10, 12. */
    private static void taken() {
        DarkRing x = new DarkRing();
        due.is("house", x, Due.house(x, HOUSE), 4, 0);
        due.is("fault(0)", x.fault(0), 0);
        due.is("fault(1)", x.fault(1), -1);
        due.is("fault(2)", x.fault(2), -1);
        due.is("fault(-1)", x.fault(-1), -1);
        due.is("a fault", x, Due.house(x, "key a; key a;"), -1, 10);
        due.is("fault(0)", x.fault(0), 3);
        due.is("fault(1)", x.fault(1), 11);
        due.is("the old one stays", x, x.many(1), 4, 0);
        due.is("a rule's fault", x, Due.rule(x, "try; end;"), -1, 10);
        due.is("fault(0) of a rule", x.fault(0), 2);
        due.is("fault(1) of a rule", x.fault(1), 5);
        due.is("a rule without", x, Due.rule(x, "try;"), 1, 0);
        due.is("fault(0) of none", x.fault(0), 0);
    }

    /** Promise 12: house() and rule() with 0 or 10 tell, with 5 they do not. */
    private static void latestFault() {
        DarkRing x = new DarkRing();
        x.house(1);
        x.rule(1);
        due.is("ahead of any", x.fault(0), -1);
        due.is("ahead of any", x.fault(1), -1);
        x.rule(0);
        due.is("a rule without", x.fault(0), 0);
        due.is("a rule without", x.fault(1), -1);
        Due.house(x, "key a; ?");
        due.is("a house's", x.fault(0), 1);
        due.is("a house's", x.fault(1), 7);
        x.house(1);
        x.rule(301);
        x.many(0);
        due.is("it stays", x.fault(0), 1);
        due.is("it stays", x.fault(1), 7);
        due.is("fault(2)", x.fault(2), -1);
        due.is("fault(-1)", x.fault(-1), -1);
        Due.rule(x, "go;go");
        due.is("a rule's", x.fault(0), 2);
        due.is("a rule's", x.fault(1), 5);
        x.house(0);
        due.is("a house without", x.fault(0), 0);
        due.is("a house without", x.fault(1), -1);
        x = new DarkRing();
        Due.house(x, "?");
        due.is("place 0", x.fault(1), 0);
    }

    /** Promises 13 to 20 with the most there may be of all. */
    private static void most() {
        String house = "feature f steps 4;feature g steps 4;feature h steps 4;";
        for (int k = 0; k < 10; k++) house += "key k" + (char) ('a' + k) + " " + k % 4 + " " + (k + 1) % 4 + " 3;";
        house += "ring r kj ki kh kg kf ke kd kc kb ka;ring q;ring p;";
        for (int d = 0; d < 5; d++) house += "door d" + (char) ('a' + d) + " wanted 99 by kj ka;";
        house += "seconds feel 99 try 99 go 99 drop 99;turned 16;round de da da da da da da da da da da de;";
        DarkRing x = new DarkRing();
        due.is("ten keys", x, Due.house(x, house), 10, 0);
        int[] many = {3, 10, 3, 5, 12, 99, 99, 99, 99, 16, -1};
        for (int what = 0; what < many.length; what++) due.is("many(" + what + ")", x, x.many(what), many[what], 0);
        for (int k = 0; k < 10; k++) {
            due.is("stepOf(" + k + ", 0)", x, x.stepOf(k, 0), k % 4, 0);
            due.is("stepOf(" + k + ", 1)", x, x.stepOf(k, 1), (k + 1) % 4, 0);
            due.is("stepOf(" + k + ", 2)", x, x.stepOf(k, 2), 3, 0);
            due.is("key(" + k + ", 0)", x, x.key(k, 0), 0, 0);
            due.is("key(" + k + ", 1)", x, x.key(k, 1), 9 - k, 0);
            due.is("ring(0, " + k + ")", x, x.ring(0, k), 9 - k, 0);
        }
        due.is("ring(0, NONE)", x, x.ring(0, DarkRing.NONE), 10, 0);
        due.is("ring(0, 10)", x, x.ring(0, 10), -1, 8);
        due.is("ring(2, NONE)", x, x.ring(2, DarkRing.NONE), 0, 0);
        due.is("ring(2, 0)", x, x.ring(2, 0), -1, 8);
        due.is("ring(3, NONE)", x, x.ring(3, DarkRing.NONE), -1, 2);
        due.is("key(10, 0)", x, x.key(10, 0), -1, 2);
        due.is("stepOf(9, 3)", x, x.stepOf(9, 3), -1, 2);
        due.is("stepOf(10, 2)", x, x.stepOf(10, 2), -1, 2);
        due.is("feature(2, 0)", x, x.feature(2, 0), 4, 0);
        due.is("feature(3, 0)", x, x.feature(3, 0), -1, 2);
        due.is("door(4, 0)", x, x.door(4, 0), 99, 0);
        due.is("door(4, 1)", x, x.door(4, 1), 513, 0);
        due.is("door(5, 0)", x, x.door(5, 0), -1, 2);
        due.is("round(0)", x, x.round(0), 4, 0);
        due.is("round(11)", x, x.round(11), 4, 0);
        due.is("round(10)", x, x.round(10), 0, 0);
        due.is("round(12)", x, x.round(12), -1, 8);
        x.take(0);
        due.is("ten places are held", x, x.many(10), 0, 0);
        due.is("part(9, 1)", x, x.part(9, 1), 100000, 0);
        due.is("part(10, 1)", x, x.part(10, 1), -1, 5);
    }

    /** Promise 15: each STEP as each, as told, and as itself without; the last STEP that is, and the first that is not. */
    private static void steps() {
        for (int steps = 2; steps <= 4; steps++) {
            String house = "feature e steps 2;feature f steps " + steps + " turned;feature g steps " + steps + ";feels g";
            for (int i = 0; i < steps * steps; i++) house += i % steps == 0 ? " " + (17 - steps) : " 1";
            DarkRing x = new DarkRing();
            due.is("house", x, Due.house(x, house + ";"), 0, 0);
            due.is("steps", x, x.feature(1, 0), steps, 0);
            due.is("a turned one", x, x.feature(1, 1), 1, 0);
            due.is("none", x, x.feature(2, 1), 0, 0);
            for (int i = 0; i < steps * steps; i++) {
                int step = i / steps;
                int felt = i % steps;
                due.is("as itself", x, x.feels(1, step, felt), step == felt ? 16 : 0, 0);
                due.is("as told", x, x.feels(2, step, felt), felt == 0 ? 17 - steps : 1, 0);
            }
            for (int f = 1; f < 3; f++) {
                due.is("a step behind the last", x, x.feels(f, steps, 0), -1, 2);
                due.is("felt behind the last", x, x.feels(f, 0, steps), -1, 2);
                due.is("a step ahead of 0", x, x.feels(f, -1, 0), -1, 2);
                due.is("felt ahead of 0", x, x.feels(f, 0, -1), -1, 2);
            }
        }
    }

    /** Promises 13, 14, 15, 16, 19, 20. */
    private static void things() {
        DarkRing x = new DarkRing();
        Due.house(x, HOUSE);
        int[] many = {2, 4, 3, 2, 3, 2, 5, 3, 99, 16, -1};
        for (int what = 0; what < many.length; what++) due.is("many(" + what + ")", x, x.many(what), many[what], 0);
        due.is("many(11)", x, x.many(11), -1, 5);
        due.is("many(-1)", x, x.many(-1), -1, 5);
        due.is("feature(0, 0)", x, x.feature(0, 0), 3, 0);
        due.is("feature(0, 1)", x, x.feature(0, 1), 1, 0);
        due.is("feature(1, 0)", x, x.feature(1, 0), 2, 0);
        due.is("feature(1, 1)", x, x.feature(1, 1), 0, 0);
        due.is("feature(2, 0)", x, x.feature(2, 0), -1, 2);
        due.is("feature(-1, 5)", x, x.feature(-1, 5), -1, 2);
        due.is("feature(0, 2)", x, x.feature(0, 2), -1, 5);
        due.is("feature(0, -1)", x, x.feature(0, -1), -1, 5);
        int[] nick = {12, 4, 0, 16};
        for (int i = 0; i < 4; i++) due.is("feels(1, ..)", x, x.feels(1, i / 2, i % 2), nick[i], 0);
        due.is("feels(0, 2, 2)", x, x.feels(0, 2, 2), 16, 0);
        due.is("feels(0, 2, 0)", x, x.feels(0, 2, 0), 0, 0);
        due.is("feels(1, 2, 0)", x, x.feels(1, 2, 0), -1, 2);
        due.is("feels(1, 0, 2)", x, x.feels(1, 0, 2), -1, 2);
        due.is("feels(1, -1, 0)", x, x.feels(1, -1, 0), -1, 2);
        due.is("feels(2, 0, 0)", x, x.feels(2, 0, 0), -1, 2);
        due.is("stepOf(1, 0)", x, x.stepOf(1, 0), 2, 0);
        due.is("stepOf(3, 1)", x, x.stepOf(3, 1), 1, 0);
        due.is("stepOf(4, 0)", x, x.stepOf(4, 0), -1, 2);
        due.is("stepOf(0, 2)", x, x.stepOf(0, 2), -1, 2);
        due.is("door(0, 0)", x, x.door(0, 0), 99, 0);
        due.is("door(0, 1)", x, x.door(0, 1), 5, 0);
        due.is("door(1, 0)", x, x.door(1, 0), 0, 0);
        due.is("door(1, 1)", x, x.door(1, 1), 8, 0);
        due.is("door(2, 0)", x, x.door(2, 0), -1, 2);
        due.is("door(0, 2)", x, x.door(0, 2), -1, 5);
        int[] round = {1, 0, 1};
        for (int k = 0; k < 3; k++) due.is("round(" + k + ")", x, x.round(k), round[k], 0);
        due.is("round(3)", x, x.round(3), -1, 8);
        due.is("round(-1)", x, x.round(-1), -1, 8);
    }

    /** Promises 17, 18. */
    private static void keysAndRings() {
        DarkRing x = new DarkRing();
        Due.house(x, HOUSE);
        due.is("key(0, 0)", x, x.key(0, 0), 0, 0);
        due.is("key(0, 1)", x, x.key(0, 1), 1, 0);
        due.is("key(2, 1)", x, x.key(2, 1), 0, 0);
        due.is("key(3, 0)", x, x.key(3, 0), 2, 0);
        due.is("key(1, 0)", x, x.key(1, 0), -1, 8);
        due.is("key(1, 1)", x, x.key(1, 1), -1, 8);
        due.is("key(1, 2)", x, x.key(1, 2), 0, 0);
        due.is("key(1, 3)", x, x.key(1, 3), -1, 5);
        due.is("key(4, 3)", x, x.key(4, 3), -1, 2);
        due.is("ring(0, NONE)", x, x.ring(0, DarkRing.NONE), 2, 0);
        due.is("ring(0, 0)", x, x.ring(0, 0), 2, 0);
        due.is("ring(0, 1)", x, x.ring(0, 1), 0, 0);
        due.is("ring(0, 2)", x, x.ring(0, 2), -1, 8);
        due.is("ring(0, -2)", x, x.ring(0, -2), -1, 8);
        due.is("ring(1, NONE)", x, x.ring(1, -1), 0, 0);
        due.is("ring(3, NONE)", x, x.ring(3, -1), -1, 2);
        x.lend(2, true);
        due.is("a lent one is not there", x, x.ring(0, -1), 1, 0);
        due.is("the other one comes up", x, x.ring(0, 0), 0, 0);
        due.is("its place among all", x, x.key(0, 1), 1, 0);
        due.is("a lent one's place", x, x.key(2, 1), 0, 0);
        due.is("it is lent", x, x.key(2, 2), 1, 0);
    }

    /** Promises 17, 18: the PLACE among all, lent or not; the k-th of those that are there. */
    private static void placesOfKeys() {
        DarkRing x = new DarkRing();
        Due.house(x, "key a;key b;key c;key d;ring r d c b a;");
        x.lend(3, true);
        x.lend(1, true);
        int[] place = {3, 2, 1, 0};
        for (int k = 0; k < 4; k++) {
            due.is("key(" + k + ", 0)", x, x.key(k, 0), 0, 0);
            due.is("key(" + k + ", 1)", x, x.key(k, 1), place[k], 0);
            due.is("key(" + k + ", 2)", x, x.key(k, 2), k % 2, 0);
        }
        due.is("two are there", x, x.ring(0, DarkRing.NONE), 2, 0);
        due.is("ring(0, 0)", x, x.ring(0, 0), 2, 0);
        due.is("ring(0, 1)", x, x.ring(0, 1), 0, 0);
        due.is("ring(0, 2)", x, x.ring(0, 2), -1, 8);
        x.lend(0, true);
        x.lend(2, true);
        due.is("none is there", x, x.ring(0, DarkRing.NONE), 0, 0);
        due.is("none at place 0", x, x.ring(0, 0), -1, 8);
        x.off(0);
        due.is("one that lies about", x, x.key(0, 0), -1, 8);
        due.is("it has no place", x, x.key(0, 1), -1, 8);
        due.is("it is lent still", x, x.key(0, 2), 1, 0);
        due.is("2 ahead of 5", x, x.key(4, -1), -1, 2);
        due.is("5 ahead of 8", x, x.key(0, 3), -1, 5);
        due.is("5 ahead of 8", x, x.key(0, -1), -1, 5);
        due.is("2 ahead of 8", x, x.ring(1, 9), -1, 2);
    }

    /** Promise 10: a house that is taken is there in place of that ahead. */
    private static void inItsPlace() {
        DarkRing x = new DarkRing();
        Due.house(x, HOUSE);
        x.take(0);
        x.lend(3, true);
        x.put(1, 1, 0);
        due.is("held", x, x.many(10), 0, 0);
        due.is("another house", x, Due.house(x, "key a;key b;key c;key d;ring r a b c d;"), 4, 0);
        due.is("no ring is held", x, x.many(10), -1, 0);
        due.is("no key is lent", x, x.key(3, 2), 0, 0);
        due.is("its ring", x, x.ring(0, -1), 4, 0);
        int[] many = {0, 4, 1, 0, 0, 1, 4, 1, 9, 8, -1};
        for (int what = 0; what < many.length; what++) due.is("many(" + what + ")", x, x.many(what), many[what], 0);
        due.is("the empty house", x, x.house(0), 0, 0);
        due.is("no keys", x, x.many(1), 0, 0);
        due.is("no ring", x, x.ring(0, -1), -1, 2);
    }

    /** Promise 10: what the new HOUSE does not tell is as without, and the RULE stays. */
    private static void ofThatAheadNothing() {
        DarkRing x = new DarkRing();
        Due.house(x, HOUSE);
        Due.rule(x, "go;go;");
        x.off(0);
        Due.house(x, "feature nick steps 3;feature size steps 2;key a 2 1;key b 0 0;ring r b a;door attic wanted 4 by b;");
        int[] many = {2, 2, 1, 1, 0, 1, 4, 1, 9, 8, -1};
        for (int what = 0; what < many.length; what++) due.is("many(" + what + ")", x, x.many(what), many[what], 0);
        due.is("no turned one", x, x.feature(0, 1), 0, 0);
        for (int i = 0; i < 9; i++) due.is("feels 0, " + i, x, x.feels(0, i / 3, i % 3), i % 4 == 0 ? 16 : 0, 0);
        for (int i = 0; i < 4; i++) due.is("feels 1, " + i, x, x.feels(1, i / 2, i % 2), i % 3 == 0 ? 16 : 0, 0);
        due.is("its own steps", x, x.stepOf(0, 0), 2, 0);
        due.is("its own order", x, x.ring(0, 0), 1, 0);
        due.is("its own door", x, x.door(0, 1), 2, 0);
        due.is("no round", x, x.round(0), -1, 8);
        due.is("the rule stays", x, x.play(0, 0, 0), 0, 0);
        due.is("its steps", x, x.played(1), 2, 0);
        due.is("the names of the new one", x, Due.rule(x, "feel nick;"), 1, 0);
        due.is("the same text again", x, Due.house(x, HOUSE), 4, 0);
        due.is("its first order again", x, x.key(0, 1), 1, 0);
    }
}
