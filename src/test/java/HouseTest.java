/** Promises 9, 10, 12 to 20: the tape, a house that is taken, what is asked of it. */
public final class HouseTest {
    private static final Due due = new Due();
    private static final String HOUSE = "feature size steps 3 turned; feature nick steps 2;\nfeels nick 12 4 0 16;"
            + "key a 0 0;key b 2 1;key c 1 0;key d 1 1;ring r c a;ring q;ring p d;"
            + "door cellar wanted 99 by c a;door attic wanted 0 by d;"
            + "seconds feel 2 try 5 go 3 drop 99;turned 16;round attic cellar attic;";

    public static void main(String[] args) {
        tape();
        taken();
        things();
        keysAndRings();
        inItsPlace();
        due.end("HouseTest");
    }

    /** Promise 9, and of 10 and 11 the tape. */
    private static void tape() {
        DarkRing x = new DarkRing();
        x.back();
        for (int i = 1; i <= 45; i++) due.is("feed " + i, x.feed(0x20202020, 0x0A0A0A0A, 0x20202020, 0, -1), 20 * i);
        due.is("one feed more", x.feed(1, 2, 3, 4, 5), -1);
        due.is("feed has no status", x.status(), 8);
        due.is("house(901)", x, x.house(901), -1, 5);
        due.is("house(-1)", x, x.house(-1), -1, 5);
        due.is("rule(301)", x, x.rule(301), -1, 5);
        due.is("the tape stays with 5", x.feed(1, 2, 3, 4, 5), -1);
        due.is("fault(0) stays with 5", x.fault(0), -1);
        due.is("blanks alone", x, x.house(12), 0, 0);
        due.is("the tape is empty", x.feed(0x6B657920, 0x613B0000, 0, 0, 0), 20);
        due.is("highest byte first", x, x.house(6), 1, 0);
        due.is("the rest is gone", x, x.house(1), -1, 5);
        Due.feed(x, "key a;?");
        due.is("a fault", x, x.house(7), -1, 10);
        due.is("the tape is empty with 10, too", x.feed(0, 0, 0, 0, 0), 20);
        due.is("the byte 0 is no token", x, x.house(20), -1, 10);
        due.is("fault(0)", x.fault(0), 1);
        due.is("fault(1)", x.fault(1), 0);
        due.is("rule(0) of what is fed", x.feed(0x7472793B, 0, 0, 0, 0), 20);
        due.is("rule(4)", x, x.rule(4), 1, 0);
        due.is("the tape is empty behind rule()", x.feed(0, 0, 0, 0, 0), 20);
    }

    /** Promises 10, 12. */
    private static void taken() {
        DarkRing x = new DarkRing();
        due.is("house", x, Due.house(x, HOUSE), 4, 0);
        due.is("fault(0)", x.fault(0), 0);
        due.is("fault(1)", x.fault(1), -1);
        due.is("fault(2)", x.fault(2), -1);
        due.is("fault(-1)", x.fault(-1), -1);
        due.is("a fault", x, Due.house(x, "key a; key a;"), -1, 10);
        due.is("fault(0)", x.fault(0), 3);
        due.is("fault(1)", x.fault(1), 11);
        due.is("the old one stays", x, x.many(1), 4, 0);
        due.is("a rule's fault", x, Due.rule(x, "try; end;"), -1, 10);
        due.is("fault(0) of a rule", x.fault(0), 2);
        due.is("fault(1) of a rule", x.fault(1), 5);
        due.is("a rule without", x, Due.rule(x, "try;"), 1, 0);
        due.is("fault(0) of none", x.fault(0), 0);
    }

    /** Promises 13, 14, 15, 16, 19, 20. */
    private static void things() {
        DarkRing x = new DarkRing();
        Due.house(x, HOUSE);
        int[] many = {2, 4, 3, 2, 3, 2, 5, 3, 99, 16, -1};
        for (int what = 0; what < many.length; what++) due.is("many(" + what + ")", x, x.many(what), many[what], 0);
        due.is("many(11)", x, x.many(11), -1, 5);
        due.is("many(-1)", x, x.many(-1), -1, 5);
        due.is("feature(0, 0)", x, x.feature(0, 0), 3, 0);
        due.is("feature(0, 1)", x, x.feature(0, 1), 1, 0);
        due.is("feature(1, 0)", x, x.feature(1, 0), 2, 0);
        due.is("feature(1, 1)", x, x.feature(1, 1), 0, 0);
        due.is("feature(2, 0)", x, x.feature(2, 0), -1, 2);
        due.is("feature(-1, 5)", x, x.feature(-1, 5), -1, 2);
        due.is("feature(0, 2)", x, x.feature(0, 2), -1, 5);
        due.is("feature(0, -1)", x, x.feature(0, -1), -1, 5);
        int[] nick = {12, 4, 0, 16};
        for (int i = 0; i < 4; i++) due.is("feels(1, ..)", x, x.feels(1, i / 2, i % 2), nick[i], 0);
        due.is("feels(0, 2, 2)", x, x.feels(0, 2, 2), 16, 0);
        due.is("feels(0, 2, 0)", x, x.feels(0, 2, 0), 0, 0);
        due.is("feels(1, 2, 0)", x, x.feels(1, 2, 0), -1, 2);
        due.is("feels(1, 0, 2)", x, x.feels(1, 0, 2), -1, 2);
        due.is("feels(1, -1, 0)", x, x.feels(1, -1, 0), -1, 2);
        due.is("feels(2, 0, 0)", x, x.feels(2, 0, 0), -1, 2);
        due.is("stepOf(1, 0)", x, x.stepOf(1, 0), 2, 0);
        due.is("stepOf(3, 1)", x, x.stepOf(3, 1), 1, 0);
        due.is("stepOf(4, 0)", x, x.stepOf(4, 0), -1, 2);
        due.is("stepOf(0, 2)", x, x.stepOf(0, 2), -1, 2);
        due.is("door(0, 0)", x, x.door(0, 0), 99, 0);
        due.is("door(0, 1)", x, x.door(0, 1), 5, 0);
        due.is("door(1, 0)", x, x.door(1, 0), 0, 0);
        due.is("door(1, 1)", x, x.door(1, 1), 8, 0);
        due.is("door(2, 0)", x, x.door(2, 0), -1, 2);
        due.is("door(0, 2)", x, x.door(0, 2), -1, 5);
        int[] round = {1, 0, 1};
        for (int k = 0; k < 3; k++) due.is("round(" + k + ")", x, x.round(k), round[k], 0);
        due.is("round(3)", x, x.round(3), -1, 8);
        due.is("round(-1)", x, x.round(-1), -1, 8);
    }

    /** Promises 17, 18. */
    private static void keysAndRings() {
        DarkRing x = new DarkRing();
        Due.house(x, HOUSE);
        due.is("key(0, 0)", x, x.key(0, 0), 0, 0);
        due.is("key(0, 1)", x, x.key(0, 1), 1, 0);
        due.is("key(2, 1)", x, x.key(2, 1), 0, 0);
        due.is("key(3, 0)", x, x.key(3, 0), 2, 0);
        due.is("key(1, 0)", x, x.key(1, 0), -1, 8);
        due.is("key(1, 1)", x, x.key(1, 1), -1, 8);
        due.is("key(1, 2)", x, x.key(1, 2), 0, 0);
        due.is("key(1, 3)", x, x.key(1, 3), -1, 5);
        due.is("key(4, 3)", x, x.key(4, 3), -1, 2);
        due.is("ring(0, NONE)", x, x.ring(0, DarkRing.NONE), 2, 0);
        due.is("ring(0, 0)", x, x.ring(0, 0), 2, 0);
        due.is("ring(0, 1)", x, x.ring(0, 1), 0, 0);
        due.is("ring(0, 2)", x, x.ring(0, 2), -1, 8);
        due.is("ring(0, -2)", x, x.ring(0, -2), -1, 8);
        due.is("ring(1, NONE)", x, x.ring(1, -1), 0, 0);
        due.is("ring(3, NONE)", x, x.ring(3, -1), -1, 2);
        x.lend(2, true);
        due.is("a lent one is not there", x, x.ring(0, -1), 1, 0);
        due.is("the other one comes up", x, x.ring(0, 0), 0, 0);
        due.is("its place among all", x, x.key(0, 1), 1, 0);
        due.is("a lent one's place", x, x.key(2, 1), 0, 0);
        due.is("it is lent", x, x.key(2, 2), 1, 0);
    }

    /** Promise 10: a house that is taken is there in place of that ahead. */
    private static void inItsPlace() {
        DarkRing x = new DarkRing();
        Due.house(x, HOUSE);
        x.take(0);
        x.lend(3, true);
        x.put(1, 1, 0);
        due.is("held", x, x.many(10), 0, 0);
        due.is("another house", x, Due.house(x, "key a;key b;key c;key d;ring r a b c d;"), 4, 0);
        due.is("no ring is held", x, x.many(10), -1, 0);
        due.is("no key is lent", x, x.key(3, 2), 0, 0);
        due.is("its ring", x, x.ring(0, -1), 4, 0);
        int[] many = {0, 4, 1, 0, 0, 1, 4, 1, 9, 8, -1};
        for (int what = 0; what < many.length; what++) due.is("many(" + what + ")", x, x.many(what), many[what], 0);
        due.is("the empty house", x, x.house(0), 0, 0);
        due.is("no keys", x, x.many(1), 0, 0);
        due.is("no ring", x, x.ring(0, -1), -1, 2);
    }
}
