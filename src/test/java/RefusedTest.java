import java.util.List;
import java.util.function.Consumer;
import java.util.function.Function;

/**
 * Section 6: each refused call of each promise, with its STATUS, NONE or false, and that it changes nothing but STATUS:
 * of two objects that were made alike one gets the call, and then all that can be seen of both is compared. Where two
 * reasons hold, the one that must be told is.
 */
public final class RefusedTest {
    private static final Due due = new Due();
    private static final int LEAST = Integer.MIN_VALUE;
    private static final int MOST = Integer.MAX_VALUE;
    private static Consumer<DarkRing> ahead = x -> { };

    public static void main(String[] args) {
        ofANewObject();
        trays();
        tapeAndTexts();
        tapeIsFull();
        faultsOfHouses();
        faultsOfRules();
        theHouse();
        hands();
        nothingIsHeld();
        thought();
        cannotBe();
        searched();
        tooManyKeys();
        noDoorIsWanted();
        apart();
        lentAndLyingAbout();
        rules();
        marks();
        due.end("RefusedTest");
    }

    /** Something of each kind: TRAYS of three sorts, orders, LENT, HELD and felt, found, played, MARKS, a FRACTION. */
    private static void full(DarkRing x) {
        x.tray(0, 0, 3);
        x.write(0, 1, -7);
        x.tray(1, 1, 2);
        x.write(1, 0, 300);
        x.tray(2, 0, 4);
        x.write(2, 3, 5);
        Due.house(x, "feature size steps 3 turned;feature nick steps 2;feels nick 12 4 2 14;key a 0 0;key b 2 1;"
                + "key c 1 0;key d 1 1;key e 0 1;key g 2 0;ring r a b c;ring q d;ring p;door x wanted 2 by b;"
                + "door y wanted 0 by a d;door z wanted 5 by e;seconds feel 2 try 5 go 3 drop 7;turned 5;round x y;");
        Due.rule(x, "feel nick;when felt nick=1;try;end;go;try;");
        x.mark();
        x.put(4, 2, 0);
        x.lend(3, true);
        x.take(0);
        x.feel(1, 1);
        x.mark();
        Due.rule(x, "loop 3;go;end;feel size;");
        x.tried(0, false);
        x.goOn();
        x.laid(0, false);
        x.play(0, 1, 5);
        x.opens(1);
        Due.feed(x, "key a;ring r a;");
    }

    static DarkRing made() {
        DarkRing x = new DarkRing();
        full(x);
        ahead.accept(x);
        return x;
    }

    private static void refused(int status, String what, Function<DarkRing, Object> call) {
        DarkRing as = made();
        DarkRing x = made();
        Object answer = call.apply(x);
        due.is(what, answer.equals(false) || answer.equals(-1) || answer.equals(-1L), true);
        due.is(what + ", status()", x.status(), status);
        same(what, Seen.toTheEnd(as), Seen.toTheEnd(x));
    }

    private static void ofANewObject() {
        DarkRing x = new DarkRing();
        due.is("a new object's take(0)", x, x.take(0), false, 2);
        same("a new object's take(0)", Seen.toTheEnd(new DarkRing()), Seen.toTheEnd(x));
        List<String> of = Seen.toTheEnd(made());
        due.is("much is seen", of.size() > 200, true);
        due.is("what differs is seen", Seen.difference(Seen.toTheEnd(new DarkRing()), of).isEmpty(), false);
    }

    /** Promises 5 to 8. */
    private static void trays() {
        refused(1, "tray(4, 0, 1)", x -> x.tray(4, 0, 1));
        refused(1, "tray(-1, 0, 1)", x -> x.tray(-1, 0, 1));
        refused(1, "tray(0, 4, 1)", x -> x.tray(0, 4, 1));
        refused(1, "tray(0, -1, 1)", x -> x.tray(0, -1, 1));
        refused(1, "tray(4, 0, 61)", x -> x.tray(4, 0, 61));
        refused(1, "tray(0, 4, -1)", x -> x.tray(0, 4, -1));
        refused(5, "tray(0, 0, 61)", x -> x.tray(0, 0, 61));
        refused(5, "tray(0, 0, MOST)", x -> x.tray(0, 0, MOST));
        refused(6, "tray(0, 0, -1)", x -> x.tray(0, 0, -1));
        refused(6, "tray(0, 0, LEAST)", x -> x.tray(0, 0, LEAST));
        refused(6, "tray(3, 0, -1)", x -> x.tray(3, 0, -1));
        refused(1, "write(4, 0, 9)", x -> x.write(4, 0, 9));
        refused(1, "write(-1, 0, 9)", x -> x.write(-1, 0, 9));
        refused(3, "write(3, 0, 9)", x -> x.write(3, 0, 9));
        refused(3, "write(3, -1, 9)", x -> x.write(3, -1, 9));
        refused(4, "write(0, 3, 9)", x -> x.write(0, 3, 9));
        refused(4, "write(0, -1, 9)", x -> x.write(0, -1, 9));
        refused(1, "read(4, 0)", x -> x.read(4, 0));
        refused(1, "read(-1, 0)", x -> x.read(-1, 0));
        refused(3, "read(3, 0)", x -> x.read(3, 0));
        refused(3, "read(3, 60)", x -> x.read(3, 60));
        refused(4, "read(0, 3)", x -> x.read(0, 3));
        refused(4, "read(0, -1)", x -> x.read(0, -1));
        refused(1, "pour(4, 0, 3, 0, 1)", x -> x.pour(4, 0, 3, 0, 1));
        refused(1, "pour(3, 0, -1, 0, 1)", x -> x.pour(3, 0, -1, 0, 1));
        refused(1, "pour(0, 0, 4, 0, -1)", x -> x.pour(0, 0, 4, 0, -1));
        refused(3, "pour(3, 0, 0, 0, 1)", x -> x.pour(3, 0, 0, 0, 1));
        refused(3, "pour(0, 0, 3, 0, 1)", x -> x.pour(0, 0, 3, 0, 1));
        refused(3, "pour(1, 0, 3, 0, -1)", x -> x.pour(1, 0, 3, 0, -1));
        refused(3, "pour(3, 9, 3, 9, 1)", x -> x.pour(3, 9, 3, 9, 1));
        refused(11, "pour(0, 0, 1, 0, 1)", x -> x.pour(0, 0, 1, 0, 1));
        refused(11, "pour(0, 0, 1, 0, -1)", x -> x.pour(0, 0, 1, 0, -1));
        refused(11, "pour(0, 9, 1, 0, 1)", x -> x.pour(0, 9, 1, 0, 1));
        refused(6, "pour(0, 0, 2, 0, -1)", x -> x.pour(0, 0, 2, 0, -1));
        refused(6, "pour(0, 9, 2, -1, -1)", x -> x.pour(0, 9, 2, -1, -1));
        refused(6, "pour(0, 0, 0, 0, LEAST)", x -> x.pour(0, 0, 0, 0, LEAST));
        refused(4, "pour(0, 1, 2, 0, 3)", x -> x.pour(0, 1, 2, 0, 3));
        refused(4, "pour(2, 0, 0, 1, 3)", x -> x.pour(2, 0, 0, 1, 3));
        refused(4, "pour(2, 0, 0, 0, 4)", x -> x.pour(2, 0, 0, 0, 4));
        refused(4, "pour(0, -1, 2, 0, 2)", x -> x.pour(0, -1, 2, 0, 2));
        refused(4, "pour(0, 0, 2, -1, 2)", x -> x.pour(0, 0, 2, -1, 2));
        refused(4, "pour(2, 2, 2, 1, MOST)", x -> x.pour(2, 2, 2, 1, MOST));
        refused(4, "pour(2, MOST, 2, 1, 1)", x -> x.pour(2, MOST, 2, 1, 1));
    }

    /** Promises 10, 11: 20 bytes are on the tape. */
    private static void tapeAndTexts() {
        refused(5, "house(21)", x -> x.house(21));
        refused(5, "house(-1)", x -> x.house(-1));
        refused(5, "house(901)", x -> x.house(901));
        refused(5, "house(LEAST)", x -> x.house(LEAST));
        refused(5, "rule(21)", x -> x.rule(21));
        refused(5, "rule(-1)", x -> x.rule(-1));
        refused(5, "rule(301)", x -> x.rule(301));
        refused(5, "rule(MOST)", x -> x.rule(MOST));
    }

    /** Promise 9, whose refusal tells no STATUS, and of 11 a RULE that is too long. */
    private static void tapeIsFull() {
        ahead = x -> Due.feed(x, " ".repeat(280));
        refused(5, "rule(301) of 300", x -> x.rule(301));
        ahead = x -> Due.feed(x, " ".repeat(300));
        refused(5, "rule(301) of 320", x -> x.rule(301));
        ahead = x -> Due.feed(x, " ".repeat(880));
        refused(0, "feed(..) of 900", x -> x.feed(-1, -1, -1, -1, -1));
        refused(5, "house(901) of 900", x -> x.house(901));
        ahead = x -> {
            Due.feed(x, " ".repeat(880));
            x.played(7);
        };
        refused(5, "feed(..) of 900, behind a refusal", x -> x.feed(-1, -1, -1, -1, -1));
        ahead = x -> { };
    }

    /** With 10 nothing changes but the tape, which is empty here ahead of the text and behind it, and fault(). */
    private static void faulty(boolean isRule, String text, int fault, int place) {
        ahead = x -> {
            x.house(21);
            x.rule(0);
            Due.rule(x, "go;go;");
        };
        DarkRing as = made();
        DarkRing x = made();
        due.is(text, x, isRule ? Due.rule(x, text) : Due.house(x, text), -1, 10);
        due.is(text + ", fault(0)", x.fault(0), fault);
        due.is(text + ", fault(1)", x.fault(1), place);
        due.is(text + ", the tape is empty", x, x.house(1), -1, 5);
        List<String> one = Seen.toTheEnd(as);
        List<String> other = Seen.toTheEnd(x);
        due.is(text + ", a row of fault()", one.remove("the fault 0 at -1"), true);
        due.is(text + ", a row of fault()", other.remove("the fault " + fault + " at " + place), true);
        same(text, one, other);
        ahead = y -> { };
    }

    private static void same(String what, List<String> one, List<String> other) {
        String difference = Seen.difference(one, other);
        if (!difference.isEmpty()) System.out.println(what + ": " + difference);
        due.is(what + " changes nothing", difference.isEmpty(), true);
    }

    /** Promises 10, 12: RINGS, orders, what is HELD and LENT stay, too. */
    private static void faultsOfHouses() {
        faulty(false, "?", 1, 0);
        faulty(false, "key a;go;", 2, 6);
        faulty(false, "key a;key a;", 3, 10);
        faulty(false, "key a;turned 17;", 4, 13);
        faulty(false, "key a;ring r a a;", 5, 15);
        faulty(false, "ring s;ring t;ring u;ring v;", 6, 21);
        faulty(false, "key a;feature f steps 2;", 7, 6);
        faulty(false, "key a 0;", 8, 6);
        faulty(false, "feature f steps 2;feels f 8 7;", 9, 28);
        faulty(false, "seconds feel 9 try 9 go 9 drop 9", 2, 32);
        faulty(false, "key a;ring r a;door d wanted 3 by a", 2, 35);
    }

    /** Promises 11, 12: the RULE stays, too, as play() shows. */
    private static void faultsOfRules() {
        faulty(true, "?", 1, 0);
        faulty(true, "try;end;", 2, 4);
        faulty(true, "go;loop 2;go;", 2, 13);
        faulty(true, "feel a;", 3, 5);
        faulty(true, "go;when sure 17;end;", 4, 13);
        faulty(true, "go;".repeat(31), 6, 90);
        faulty(true, "loop 2;loop 2;loop 2;loop 2;", 7, 21);
    }

    /** Promises 13 to 20. */
    private static void theHouse() {
        refused(5, "many(11)", x -> x.many(11));
        refused(5, "many(-1)", x -> x.many(-1));
        refused(2, "feature(2, 0)", x -> x.feature(2, 0));
        refused(2, "feature(-1, 2)", x -> x.feature(-1, 2));
        refused(5, "feature(1, 2)", x -> x.feature(1, 2));
        refused(5, "feature(1, -1)", x -> x.feature(1, -1));
        refused(2, "feels(2, 0, 0)", x -> x.feels(2, 0, 0));
        refused(2, "feels(-1, 0, 0)", x -> x.feels(-1, 0, 0));
        refused(2, "feels(1, 2, 0)", x -> x.feels(1, 2, 0));
        refused(2, "feels(1, -1, 0)", x -> x.feels(1, -1, 0));
        refused(2, "feels(1, 0, 2)", x -> x.feels(1, 0, 2));
        refused(2, "feels(1, 0, -1)", x -> x.feels(1, 0, -1));
        refused(2, "feels(0, 3, 0)", x -> x.feels(0, 3, 0));
        refused(2, "stepOf(6, 0)", x -> x.stepOf(6, 0));
        refused(2, "stepOf(-1, 0)", x -> x.stepOf(-1, 0));
        refused(2, "stepOf(0, 2)", x -> x.stepOf(0, 2));
        refused(2, "stepOf(0, -1)", x -> x.stepOf(0, -1));
        refused(2, "key(6, 3)", x -> x.key(6, 3));
        refused(2, "key(-1, 0)", x -> x.key(-1, 0));
        refused(5, "key(0, 3)", x -> x.key(0, 3));
        refused(5, "key(5, -1)", x -> x.key(5, -1));
        refused(8, "key(5, 0)", x -> x.key(5, 0));
        refused(8, "key(5, 1)", x -> x.key(5, 1));
        refused(2, "ring(3, NONE)", x -> x.ring(3, -1));
        refused(2, "ring(-1, 9)", x -> x.ring(-1, 9));
        refused(8, "ring(0, 3)", x -> x.ring(0, 3));
        refused(8, "ring(0, -2)", x -> x.ring(0, -2));
        refused(8, "ring(1, 0)", x -> x.ring(1, 0));
        refused(2, "door(3, 2)", x -> x.door(3, 2));
        refused(2, "door(-1, 0)", x -> x.door(-1, 0));
        refused(5, "door(0, 2)", x -> x.door(0, 2));
        refused(5, "door(0, -1)", x -> x.door(0, -1));
        refused(8, "round(2)", x -> x.round(2));
        refused(8, "round(-1)", x -> x.round(-1));
    }

    /** Promises 21 to 24; TRAY 0 has three numbers, 0, -7, 0. */
    private static void hands() {
        refused(1, "lay(3, 4)", x -> x.lay(3, 4));
        refused(1, "lay(0, -1)", x -> x.lay(0, -1));
        refused(2, "lay(3, 3)", x -> x.lay(3, 3));
        refused(2, "lay(-1, 0)", x -> x.lay(-1, 0));
        refused(3, "lay(0, 3)", x -> x.lay(0, 3));
        refused(4, "lay(0, 1)", x -> x.lay(0, 1));
        refused(5, "lay(0, 0)", x -> x.lay(0, 0));
        ahead = x -> {
            for (int i = 0; i < 3; i++) x.write(0, i, 2 - i);
            x.write(0, 2, 1);
        };
        refused(5, "lay(0, 0), one again at the end", x -> x.lay(0, 0));
        ahead = x -> {
            for (int i = 0; i < 3; i++) x.write(0, i, 2 - i);
            x.write(0, 2, 3);
        };
        refused(5, "lay(0, 0), another key at the end", x -> x.lay(0, 0));
        ahead = x -> { };
        refused(2, "lend(6, true)", x -> x.lend(6, true));
        refused(2, "lend(-1, false)", x -> x.lend(-1, false));
        refused(2, "put(6, 0, -1)", x -> x.put(6, 0, -1));
        refused(2, "put(-1, 0, 0)", x -> x.put(-1, 0, 0));
        refused(2, "put(5, 3, 0)", x -> x.put(5, 3, 0));
        refused(2, "put(5, -1, 0)", x -> x.put(5, -1, 0));
        refused(2, "put(0, 3, 9)", x -> x.put(0, 3, 9));
        refused(5, "put(5, 0, 4)", x -> x.put(5, 0, 4));
        refused(5, "put(5, 0, -1)", x -> x.put(5, 0, -1));
        refused(5, "put(0, 0, 4)", x -> x.put(0, 0, 4));
        refused(5, "put(5, 1, 2)", x -> x.put(5, 1, 2));
        refused(9, "put(0, 0, 0)", x -> x.put(0, 0, 0));
        refused(9, "put(0, 2, 1)", x -> x.put(0, 2, 1));
        refused(9, "put(3, 0, 3)", x -> x.put(3, 0, 3));
        refused(2, "off(6)", x -> x.off(6));
        refused(2, "off(-1)", x -> x.off(-1));
        refused(8, "off(5)", x -> x.off(5));
    }

    /** Promises 26 to 34. */
    private static void nothingIsHeld() {
        ahead = x -> x.lend(0, false);
        refused(8, "part(0, 0)", x -> x.part(0, 0));
        refused(8, "part(-1, 2)", x -> x.part(-1, 2));
        refused(8, "feel(0, 0)", x -> x.feel(0, 0));
        refused(2, "feel(0, 3)", x -> x.feel(0, 3));
        refused(8, "goOn()", x -> x.goOn());
        refused(8, "turn()", x -> x.turn());
        refused(8, "tried(0, true)", x -> x.tried(0, true));
        refused(2, "tried(3, true)", x -> x.tried(3, true));
        refused(8, "here(0)", x -> x.here(0));
        refused(2, "here(6)", x -> x.here(6));
        refused(8, "opens(0)", x -> x.opens(0));
        refused(2, "opens(3)", x -> x.opens(3));
        refused(8, "worth(0, 0)", x -> x.worth(0, 0));
        refused(5, "worth(0, 5)", x -> x.worth(0, 5));
        refused(2, "worth(3, 5)", x -> x.worth(3, 5));
        refused(8, "next(0, 1)", x -> x.next(0, 1));
        refused(5, "next(0, 0)", x -> x.next(0, 0));
        refused(2, "next(3, 0)", x -> x.next(3, 0));
        ahead = x -> { };
    }

    /** Promises 25 to 34, with RING 0 HELD, of three PLACES. */
    private static void thought() {
        refused(2, "take(3)", x -> x.take(3));
        refused(2, "take(-1)", x -> x.take(-1));
        refused(8, "take(1)", x -> x.take(1));
        refused(5, "part(3, 0)", x -> x.part(3, 0));
        refused(5, "part(-1, 0)", x -> x.part(-1, 0));
        refused(5, "part(0, 2)", x -> x.part(0, 2));
        refused(5, "part(0, -1)", x -> x.part(0, -1));
        refused(2, "feel(2, 0)", x -> x.feel(2, 0));
        refused(2, "feel(-1, 0)", x -> x.feel(-1, 0));
        refused(2, "feel(1, 2)", x -> x.feel(1, 2));
        refused(2, "feel(0, 3)", x -> x.feel(0, 3));
        refused(2, "feel(0, -1)", x -> x.feel(0, -1));
        refused(2, "tried(3, false)", x -> x.tried(3, false));
        refused(2, "tried(-1, false)", x -> x.tried(-1, false));
        refused(9, "tried(2, true)", x -> x.tried(2, true));
        refused(2, "here(6)", x -> x.here(6));
        refused(2, "here(-1)", x -> x.here(-1));
        refused(2, "opens(3)", x -> x.opens(3));
        refused(2, "opens(-1)", x -> x.opens(-1));
        refused(2, "worth(3, 0)", x -> x.worth(3, 0));
        refused(2, "worth(-1, 5)", x -> x.worth(-1, 5));
        refused(5, "worth(0, 5)", x -> x.worth(0, 5));
        refused(5, "worth(0, -1)", x -> x.worth(0, -1));
        refused(2, "next(3, 1)", x -> x.next(3, 1));
        refused(2, "next(-1, 0)", x -> x.next(-1, 0));
        refused(5, "next(0, 0)", x -> x.next(0, 0));
        refused(5, "next(0, 5)", x -> x.next(0, 5));
        refused(5, "next(0, -1)", x -> x.next(0, -1));
    }

    /** 9 of promises 27 and 30: all weights are 0. */
    private static void cannotBe() {
        ahead = x -> {
            x.take(0);
            x.tried(1, true);
        };
        refused(9, "feel(0, 1)", x -> x.feel(0, 1));
        refused(9, "tried(1, false)", x -> x.tried(1, false));
        refused(9, "tried(0, true)", x -> x.tried(0, true));
        refused(2, "feel(0, 9)", x -> x.feel(0, 9));
        ahead = x -> { };
    }

    /** Promises 35 to 42; RING 1 has no KEY that is there. */
    private static void searched() {
        refused(2, "searched(3, 0, 0, 0)", x -> x.searched(3, 0, 0, 0));
        refused(2, "searched(-1, 0, 9, 0)", x -> x.searched(-1, 0, 9, 0));
        refused(2, "searched(0, 3, 0, 9)", x -> x.searched(0, 3, 0, 9));
        refused(2, "searched(0, -1, 0, 0)", x -> x.searched(0, -1, 0, 0));
        refused(5, "searched(0, 0, 3, 0)", x -> x.searched(0, 0, 3, 0));
        refused(5, "searched(0, 2, -1, 0)", x -> x.searched(0, 2, -1, 0));
        refused(5, "searched(0, 0, 0, 2)", x -> x.searched(0, 0, 0, 2));
        refused(5, "searched(0, 2, 0, -1)", x -> x.searched(0, 2, 0, -1));
        refused(5, "searched(1, 1, 0, 0)", x -> x.searched(1, 1, 0, 0));
        refused(8, "searched(0, 2, 0, 0)", x -> x.searched(0, 2, 0, 0));
        refused(2, "from(3, 0, 0)", x -> x.from(3, 0, 0));
        refused(2, "from(-1, 9, 0)", x -> x.from(-1, 9, 0));
        refused(5, "from(0, 3, 0)", x -> x.from(0, 3, 0));
        refused(5, "from(0, -1, 0)", x -> x.from(0, -1, 0));
        refused(5, "from(0, 0, 2)", x -> x.from(0, 0, 2));
        refused(5, "from(0, 0, -1)", x -> x.from(0, 0, -1));
        refused(5, "from(1, 0, 0)", x -> x.from(1, 0, 0));
        refused(2, "anywhere(3)", x -> x.anywhere(3));
        refused(2, "anywhere(-1)", x -> x.anywhere(-1));
        refused(8, "anywhere(1)", x -> x.anywhere(1));
        refused(2, "laid(3, true)", x -> x.laid(3, true));
        refused(2, "laid(-1, false)", x -> x.laid(-1, false));
        refused(8, "laid(1, true)", x -> x.laid(1, true));
        refused(8, "laid(1, false)", x -> x.laid(1, false));
        refused(2, "inRow(3)", x -> x.inRow(3));
        refused(2, "inRow(-1)", x -> x.inRow(-1));
        refused(2, "walked(3)", x -> x.walked(3));
        refused(2, "walked(-1)", x -> x.walked(-1));
        refused(8, "walked(1)", x -> x.walked(1));
        refused(8, "walked(2)", x -> x.walked(2));
        refused(2, "laidForRound(3)", x -> x.laidForRound(3));
        refused(2, "laidForRound(-1)", x -> x.laidForRound(-1));
        refused(8, "laidForRound(1)", x -> x.laidForRound(1));
        refused(8, "laidForRound(2)", x -> x.laidForRound(2));
        refused(8, "found(3)", x -> x.found(3));
        refused(8, "found(-1)", x -> x.found(-1));
    }

    /** 7 of promises 38 and 41, ahead of 8. */
    private static void tooManyKeys() {
        String seven = "key a;key b;key c;key d;key e;key f;key g;ring r a b c d e f g;";
        ahead = x -> {
            x.rule(0);
            Due.house(x, seven + "door x wanted 1 by a;round x;");
        };
        refused(7, "laid(0, true)", x -> x.laid(0, true));
        refused(7, "laid(0, false)", x -> x.laid(0, false));
        refused(7, "laidForRound(0)", x -> x.laidForRound(0));
        refused(2, "laid(1, true)", x -> x.laid(1, true));
        ahead = x -> {
            x.rule(0);
            Due.house(x, seven);
        };
        refused(7, "laid(0, true), no door", x -> x.laid(0, true));
        refused(7, "laidForRound(0), no round", x -> x.laidForRound(0));
        ahead = x -> { };
    }

    /** 8 of promises 36 to 39, 40, 41. */
    private static void noDoorIsWanted() {
        ahead = x -> x.lend(1, true);
        refused(8, "from(0, 0, 0)", x -> x.from(0, 0, 0));
        refused(8, "anywhere(0)", x -> x.anywhere(0));
        refused(8, "laid(0, true)", x -> x.laid(0, true));
        refused(8, "laid(0, false)", x -> x.laid(0, false));
        refused(8, "inRow(0)", x -> x.inRow(0));
        refused(8, "searched(0, 0, 0, 0)", x -> x.searched(0, 0, 0, 0));
        refused(8, "walked(0)", x -> x.walked(0));
        refused(8, "laidForRound(0)", x -> x.laidForRound(0));
        refused(5, "from(0, 2, 0)", x -> x.from(0, 2, 0));
        ahead = x -> {
            x.rule(0);
            Due.house(x, "key a;ring r a;door x wanted 1 by a;");
        };
        refused(8, "walked(0), no round", x -> x.walked(0));
        refused(8, "laidForRound(0), no round", x -> x.laidForRound(0));
        refused(8, "round(0), no round", x -> x.round(0));
        ahead = x -> { };
    }

    /** Promises 43 to 48. */
    private static void apart() {
        refused(2, "alike(3)", x -> x.alike(3));
        refused(2, "alike(-1)", x -> x.alike(-1));
        refused(2, "apart(3, true)", x -> x.apart(3, true));
        refused(2, "apart(-1, false)", x -> x.apart(-1, false));
        refused(2, "filed(3, 1)", x -> x.filed(3, 1));
        refused(2, "filed(-1, 2)", x -> x.filed(-1, 2));
        refused(5, "filed(0, 1)", x -> x.filed(0, 1));
        refused(5, "filed(0, 10)", x -> x.filed(0, 10));
        refused(2, "known(3, true)", x -> x.known(3, true));
        refused(2, "known(-1, false)", x -> x.known(-1, false));
        refused(8, "known(1, false)", x -> x.known(1, false));
        refused(2, "missing(6, 0, 17, 0)", x -> x.missing(6, 0, 17, 0));
        refused(2, "missing(-1, 0, 4, 0)", x -> x.missing(-1, 0, 4, 0));
        refused(2, "missing(1, 3, 4, 9)", x -> x.missing(1, 3, 4, 9));
        refused(2, "missing(1, -1, 4, 0)", x -> x.missing(1, -1, 4, 0));
        refused(5, "missing(1, 0, 17, 0)", x -> x.missing(1, 0, 17, 0));
        refused(5, "missing(1, 0, -1, 0)", x -> x.missing(1, 0, -1, 0));
        refused(5, "missing(1, 0, 4, 4)", x -> x.missing(1, 0, 4, 4));
        refused(5, "missing(0, 0, 4, -1)", x -> x.missing(0, 0, 4, -1));
        refused(9, "missing(0, 0, 4, 0)", x -> x.missing(0, 0, 4, 0));
        refused(9, "missing(1, 0, 0, 3)", x -> x.missing(1, 0, 0, 3));
        refused(2, "soon(6, 0, 17, 0)", x -> x.soon(6, 0, 17, 0));
        refused(2, "soon(1, 3, 4, 4)", x -> x.soon(1, 3, 4, 4));
        refused(5, "soon(1, 0, 17, 4)", x -> x.soon(1, 0, 17, 4));
        refused(5, "soon(1, 0, -1, 4)", x -> x.soon(1, 0, -1, 4));
        refused(5, "soon(1, 0, 4, 17)", x -> x.soon(1, 0, 4, 17));
        refused(5, "soon(0, 0, 4, 0)", x -> x.soon(0, 0, 4, 0));
        refused(9, "soon(0, 0, 0, 1)", x -> x.soon(0, 0, 0, 1));
        refused(8, "soon(1, 0, 0, 1)", x -> x.soon(1, 0, 0, 1));
    }

    /** 8 and 9 of promises 44 to 49: KEY 3 is LENT, KEY 5 lies about. */
    private static void lentAndLyingAbout() {
        refused(9, "missing(3, 1, 4, 0)", x -> x.missing(3, 1, 4, 0));
        refused(5, "missing(3, 1, 4, 1)", x -> x.missing(3, 1, 4, 1));
        refused(9, "missing(5, 1, 4, 0)", x -> x.missing(5, 1, 4, 0));
        refused(9, "missing(5, 1, 4, 1)", x -> x.missing(5, 1, 4, 1));
        refused(9, "missing(5, 1, 0, MOST)", x -> x.missing(5, 1, 0, MOST));
        refused(5, "missing(5, 1, 4, -1)", x -> x.missing(5, 1, 4, -1));
        refused(5, "missing(5, 1, 17, 1)", x -> x.missing(5, 1, 17, 1));
        refused(5, "missing(5, 1, -1, 1)", x -> x.missing(5, 1, -1, 1));
        refused(2, "missing(5, 3, 4, 1)", x -> x.missing(5, 3, 4, 1));
        refused(9, "soon(3, 1, 4, 1)", x -> x.soon(3, 1, 4, 1));
        refused(9, "soon(5, 1, 0, 1)", x -> x.soon(5, 1, 0, 1));
        refused(2, "newly(6, 0, 0)", x -> x.newly(6, 0, 0));
        refused(2, "newly(-1, 0, 0)", x -> x.newly(-1, 0, 0));
        refused(2, "newly(0, 3, 0)", x -> x.newly(0, 3, 0));
        refused(2, "newly(0, -1, 0)", x -> x.newly(0, -1, 0));
        refused(2, "newly(0, 0, 3)", x -> x.newly(0, 0, 3));
        refused(2, "newly(0, 0, -1)", x -> x.newly(0, 0, -1));
        refused(9, "newly(0, 0, 0)", x -> x.newly(0, 0, 0));
        refused(9, "newly(3, 0, 2)", x -> x.newly(3, 0, 2));
        refused(8, "newly(5, 0, 2)", x -> x.newly(5, 0, 2));
        refused(8, "newly(5, 1, 1)", x -> x.newly(5, 1, 1));
        ahead = x -> x.lend(5, true);
        refused(9, "newly(5, 0, 2), lent", x -> x.newly(5, 0, 2));
        ahead = x -> {
            x.rule(0);
            Due.house(x, "feature f steps 2;key a 0;key b 0;key c 0;ring r a b c;door x wanted 1 by a;");
        };
        refused(9, "filed(0, 2)", x -> x.filed(0, 2));
        refused(8, "apart(0, false)", x -> x.apart(0, false));
        refused(8, "apart(0, true)", x -> x.apart(0, true));
        refused(8, "known(0, false)", x -> x.known(0, false));
        refused(8, "known(0, true)", x -> x.known(0, true));
        ahead = x -> { };
    }

    /** Promises 50 to 52. */
    private static void rules() {
        refused(2, "play(3, 0, 0)", x -> x.play(3, 0, 0));
        refused(2, "play(-1, 0, 10000)", x -> x.play(-1, 0, 10000));
        refused(2, "play(0, 3, 0)", x -> x.play(0, 3, 0));
        refused(2, "play(0, -1, 0)", x -> x.play(0, -1, 0));
        refused(5, "play(1, 0, 10000)", x -> x.play(1, 0, 10000));
        refused(5, "play(0, 0, -1)", x -> x.play(0, 0, -1));
        refused(8, "play(1, 0, 0)", x -> x.play(1, 0, 0));
        refused(5, "played(7)", x -> x.played(7));
        refused(5, "played(-1)", x -> x.played(-1));
        refused(2, "tally(3, 0, -1, 1)", x -> x.tally(3, 0, -1, 1));
        refused(2, "tally(-1, 0, 0, 1)", x -> x.tally(-1, 0, 0, 1));
        refused(2, "tally(0, 3, 0, 0)", x -> x.tally(0, 3, 0, 0));
        refused(2, "tally(0, -1, 0, 1)", x -> x.tally(0, -1, 0, 1));
        refused(5, "tally(0, 0, -1, 1)", x -> x.tally(0, 0, -1, 1));
        refused(5, "tally(0, 0, 10000, 1)", x -> x.tally(0, 0, 10000, 1));
        refused(5, "tally(0, 0, 9999, 2)", x -> x.tally(0, 0, 9999, 2));
        refused(5, "tally(0, 0, 0, 0)", x -> x.tally(0, 0, 0, 0));
        refused(5, "tally(0, 0, 0, 31)", x -> x.tally(0, 0, 0, 31));
        refused(5, "tally(1, 0, 0, -1)", x -> x.tally(1, 0, 0, -1));
        refused(8, "tally(1, 0, 0, 1)", x -> x.tally(1, 0, 0, 1));
    }

    /** Promises 53, 54. */
    private static void marks() {
        ahead = x -> x.mark();
        refused(7, "mark(), a fourth", x -> x.mark());
        ahead = x -> {
            x.back();
            x.back();
        };
        refused(8, "back(), without a mark", x -> x.back());
        ahead = x -> { };
    }
}
