/** Promises 1 to 8: a new object, status, the fraction, trays. */
public final class TraysTest {
    private static final Due due = new Due();

    public static void main(String[] args) {
        fresh();
        freshBehindTexts();
        whichHaveNone();
        eachStatus();
        fractions();
        made();
        cut();
        cutToBits();
        firstAndLast();
        poured();
        pouredToTheBrim();
        inWhichOrder();
        latestCall();
        due.end("TraysTest");
    }

    /** Promise 1, and of 2, 3, 4 what holds ahead of any call. */
    private static void fresh() {
        DarkRing x = new DarkRing();
        due.is("status()", x.status(), 0);
        due.fraction("new", x, 0, 1);
        due.is("fault(0)", x.fault(0), -1);
        due.is("fault(1)", x.fault(1), -1);
        due.is("status() behind fault()", x.status(), 0);
        for (int t = 0; t < 4; t++) due.is("read(" + t + ", 0)", x, x.read(t, 0), -1, 3);
        int[] many = {0, 0, 0, 0, 0, 1, 4, 1, 9, 8, -1};
        for (int what = 0; what < many.length; what++) due.is("many(" + what + ")", x, x.many(what), many[what], 0);
        due.is("feature(0, 0)", x, x.feature(0, 0), -1, 2);
        due.is("key(0, 2)", x, x.key(0, 2), -1, 2);
        due.is("ring(0, NONE)", x, x.ring(0, -1), -1, 2);
        due.is("door(0, 0)", x, x.door(0, 0), -1, 2);
        due.is("round(0)", x, x.round(0), -1, 8);
        due.is("part(0, 0)", x, x.part(0, 0), -1, 8);
        due.is("found(0)", x, x.found(0), -1, 8);
        due.is("played(0)", x, x.played(0), -1, 8);
        due.is("back()", x, x.back(), -1, 8);
        due.is("an empty tape", x, x.house(1), -1, 5);
        due.is("house(0)", x, x.house(0), 0, 0);
        due.is("rule(0)", x, x.rule(0), 0, 0);
        due.is("DarkRing.NONE", DarkRing.NONE, -1);
    }

    /** Promise 1: no RULE, no MARKS, nothing LENT, as is seen when there is a HOUSE. */
    private static void freshBehindTexts() {
        DarkRing x = new DarkRing();
        due.is("an empty tape", x.feed(0x6B657920, 0x613B7269, 0x6E672072, 0x20613B64, 0x6F6F7220), 20);
        Due.feed(x, "x wanted 1 by a;");
        due.is("house(36)", x, x.house(36), 1, 0);
        due.is("no rule", x, x.play(0, 0, 0), 0, 0);
        due.is("no step of it", x, x.played(1), 0, 0);
        due.is("not lent", x, x.key(0, 2), 0, 0);
        due.is("nothing held", x, x.goOn(), false, 8);
        due.is("no mark", x, x.back(), -1, 8);
        due.is("all three marks are free", x, x.mark(), 1, 0);
        due.is("nothing found", x, x.found(0), -1, 8);
        due.fraction("no fraction told", x, 0, 1);
    }

    /** Promise 2: status(), top(), bottom(), fault(), feed() have no STATUS, fine or not. */
    private static void whichHaveNone() {
        DarkRing x = new DarkRing();
        x.back();
        due.is("status()", x.status(), 8);
        due.is("status() again", x.status(), 8);
        x.top();
        due.is("status() behind top()", x.status(), 8);
        x.bottom();
        due.is("status() behind bottom()", x.status(), 8);
        for (int what = -1; what < 3; what++) {
            x.fault(what);
            due.is("status() behind fault(" + what + ")", x.status(), 8);
        }
        for (int i = 0; i < 46; i++) {
            x.feed(0, 0, 0, 0, 0);
            due.is("status() behind feed()", x.status(), 8);
        }
        due.is("one that has one", x, x.many(0), 0, 0);
        x.feed(0, 0, 0, 0, 0);
        due.is("0 stays behind a feed() too many", x.status(), 0);
        x.fault(7);
        due.is("0 stays behind fault(7)", x.status(), 0);
    }

    /** Promise 2, section 6: each STATUS there is, and 0 behind it. */
    private static void eachStatus() {
        DarkRing x = new DarkRing();
        due.is("1", x, x.read(4, 0), -1, 1);
        due.is("0", x, x.tray(0, 0, 1), true, 0);
        due.is("2", x, x.take(0), false, 2);
        due.is("0", x, x.tray(1, 1, 1), true, 0);
        due.is("3", x, x.read(3, 0), -1, 3);
        due.is("0", x, x.read(0, 0), 0, 0);
        due.is("4", x, x.read(0, 1), -1, 4);
        due.is("0", x, x.write(0, 0, 5), true, 0);
        due.is("5", x, x.many(11), -1, 5);
        due.is("0", x, x.many(10), -1, 0);
        due.is("6", x, x.tray(0, 0, -1), false, 6);
        for (int marks = 1; marks <= 3; marks++) due.is("0", x, x.mark(), marks, 0);
        due.is("7", x, x.mark(), -1, 7);
        due.is("0", x, x.house(0), 0, 0);
        due.is("8", x, x.round(0), -1, 8);
        due.is("0", x, Due.house(x, "key a;ring r a;"), 1, 0);
        due.is("9", x, x.put(0, 0, 0), false, 9);
        due.is("0", x, x.take(0), true, 0);
        due.is("10", x, Due.house(x, "?"), -1, 10);
        due.is("0", x, x.turn(), true, 0);
        due.is("11", x, x.pour(0, 0, 1, 0, 1), false, 11);
        due.is("0", x, x.pour(0, 0, 0, 0, 1), true, 0);
    }

    /** Promises 3, 4: each call that tells a FRACTION, 0 by 1, whole numbers, a common divisor; what others leave. */
    private static void fractions() {
        DarkRing x = new DarkRing();
        Due.house(x, "key a;key b;key c;key l;ring r a b;ring q c;door x wanted 2 by a;door y wanted 1 by b;turned 0;"
                + "round x;");
        x.take(0);
        due.fraction("told by none", x, 0, 1);
        x.here(0);
        due.fraction("here(0)", x, 1, 2);
        x.here(2);
        due.fraction("here(2): 0", x, 0, 1);
        x.opens(0);
        due.fraction("opens(0)", x, 1, 2);
        x.tried(0, true);
        x.opens(0);
        due.fraction("opens(0): all", x, 1, 1);
        x.worth(0, 0);
        due.fraction("worth(0, 0): 0", x, 0, 1);
        x.worth(0, 1);
        due.fraction("worth(0, 1): all", x, 1, 1);
        x.from(0, 0, 0);
        due.fraction("from(0, 0, 0): (4 + 4 + 9) by 3", x, 17, 3);
        x.anywhere(0);
        due.fraction("anywhere(0): 39 by 6", x, 13, 2);
        x.laid(0, false);
        due.fraction("laid(0, false)", x, 17, 3);
        x.inRow(0);
        due.fraction("inRow(0): 13 by 2", x, 13, 2);
        x.missing(0, 0, 8, 0);
        due.fraction("missing(0, 0, 8, 0)", x, 1, 2);
        x.missing(0, 0, 0, 0);
        due.fraction("missing(0, 0, 0, 0): 0", x, 0, 1);
        x.newly(3, 1, 0);
        due.fraction("newly() that is refused leaves it", x, 0, 1);
        x.tally(0, 0, 0, 1);
        x.newly(3, 0, 1);
        due.fraction("newly(3, 0, 1): (4 + 9 + 14) by 3", x, 9, 1);
        x.tally(0, 0, 0, 2);
        due.fraction("tally() of no rule: 0", x, 0, 1);
        x.from(0, 0, 0);
        x.searched(0, 0, 0, 0);
        x.walked(0);
        x.laidForRound(0);
        x.next(0, 1);
        x.play(0, 0, 0);
        x.part(0, 0);
        x.goOn();
        x.soon(0, 0, 8, 16);
        x.house(0);
        due.fraction("these tell none", x, 17, 3);
    }

    /** Promise 5, and 2: the latest call's status. */
    private static void made() {
        DarkRing x = new DarkRing();
        due.is("tray(0, 0, 60)", x, x.tray(0, 0, 60), true, 0);
        due.is("read(0, 59)", x, x.read(0, 59), 0, 0);
        due.is("read(0, 60)", x, x.read(0, 60), -1, 4);
        due.is("tray(4, 0, 1)", x, x.tray(4, 0, 1), false, 1);
        due.is("tray(-1, 0, 1)", x, x.tray(-1, 0, 1), false, 1);
        due.is("tray(0, 4, 1)", x, x.tray(0, 4, 1), false, 1);
        due.is("tray(0, -1, 61)", x, x.tray(0, -1, 61), false, 1);
        due.is("tray(0, 0, 61)", x, x.tray(0, 0, 61), false, 5);
        due.is("tray(0, 0, -1)", x, x.tray(0, 0, -1), false, 6);
        due.is("nothing changed", x, x.read(0, 59), 0, 0);
        due.is("tray(3, 3, 0)", x, x.tray(3, 3, 0), true, 0);
        due.is("read(3, 0)", x, x.read(3, 0), -1, 4);
        x.write(0, 2, 7);
        due.is("tray(0, 1, 3)", x, x.tray(0, 1, 3), true, 0);
        due.is("all 0 again", x, x.read(0, 2), 0, 0);
        due.is("shorter", x, x.read(0, 3), -1, 4);
    }

    /** Promises 6 and 7. */
    private static void cut() {
        long v = 0x123456789ABCDEF0L;
        long[] kept = {(byte) v, (short) v, (int) v, v};
        DarkRing x = new DarkRing();
        for (int sort = 0; sort < 4; sort++) {
            x.tray(sort, sort, 2);
            due.is("write(" + sort + ", 1, v)", x, x.write(sort, 1, v), true, 0);
            due.is("read(" + sort + ", 1)", x, x.read(sort, 1), kept[sort], 0);
            due.is("read(" + sort + ", 0)", x, x.read(sort, 0), 0, 0);
            x.write(sort, 0, -1);
            due.is("-1 is told by 0", x, x.read(sort, 0), -1, 0);
        }
        due.is("write(4, 0, 0)", x, x.write(4, 0, 0), false, 1);
        due.is("write(0, 2, 0)", x, x.write(0, 2, 0), false, 4);
        due.is("write(0, -1, 0)", x, x.write(0, -1, 0), false, 4);
        due.is("read(-1, 0)", x, x.read(-1, 0), -1, 1);
        due.is("read(0, -1)", x, x.read(0, -1), -1, 4);
        due.is("write to what is missing", new DarkRing().write(1, 0, 0), false);
        DarkRing y = new DarkRing();
        due.is("write(1, 5, 0)", y, y.write(1, 5, 0), false, 3);
    }

    /** Promise 6: cut to 8, 16, 32 bits with sign, around the last that may be on both sides; 64 as they are. */
    private static void cutToBits() {
        int[] bits = {8, 16, 32};
        DarkRing x = new DarkRing();
        for (int sort = 0; sort < 3; sort++) {
            long all = 1L << bits[sort];
            long half = all / 2;
            long[] wrote = {half - 1, half, half + 1, all - 1, all, all + 1, -1, -half, -half - 1, -half - 2, -all,
                Long.MAX_VALUE, Long.MIN_VALUE};
            long[] kept = {half - 1, -half, -half + 1, -1, 0, 1, -1, -half, half - 1, half - 2, 0, -1, 0};
            x.tray(sort, sort, 1);
            for (int i = 0; i < wrote.length; i++) {
                due.is("write(" + sort + ", 0, " + wrote[i] + ")", x, x.write(sort, 0, wrote[i]), true, 0);
                due.is("read(" + sort + ", 0) of " + wrote[i], x, x.read(sort, 0), kept[i], 0);
            }
        }
        x.tray(3, 3, 1);
        for (long v : new long[] {Long.MAX_VALUE, Long.MIN_VALUE, -1, 0, 1L << 32, -(1L << 32)}) {
            x.write(3, 0, v);
            due.is("read(3, 0)", x, x.read(3, 0), v, 0);
        }
    }

    /** Promises 5, 6, 7: the first and the last TRAY, sort, length and place that may be, and their neighbours. */
    private static void firstAndLast() {
        DarkRing x = new DarkRing();
        int[] lengths = {0, 1, 59, 60};
        for (int tray = 0; tray < 4; tray++) {
            for (int many : lengths) {
                due.is("tray(.., " + many + ")", x, x.tray(tray, 3 - tray, many), true, 0);
                due.is("write behind", x, x.write(tray, many, 1), false, 4);
                due.is("write ahead", x, x.write(tray, -1, 1), false, 4);
                due.is("read behind", x, x.read(tray, many), -1, 4);
                due.is("read ahead", x, x.read(tray, -1), -1, 4);
                if (many == 0) continue;
                due.is("all 0", x, x.read(tray, many - 1), 0, 0);
                due.is("write first", x, x.write(tray, 0, 5), true, 0);
                due.is("write last", x, x.write(tray, many - 1, 6), true, 0);
                due.is("read last", x, x.read(tray, many - 1), 6, 0);
                due.is("read first", x, x.read(tray, 0), many == 1 ? 6 : 5, 0);
            }
        }
        due.is("a long one again is all 0", x, x.tray(0, 0, 60), true, 0);
        for (int i = 0; i < 60; i++) due.is("read(0, " + i + ")", x, x.read(0, i), 0, 0);
        due.is("another one stays", x, x.read(1, 59), 6, 0);
    }

    /** Promise 8. */
    private static void poured() {
        DarkRing x = new DarkRing();
        x.tray(0, 1, 5);
        x.tray(1, 1, 4);
        x.tray(2, 2, 4);
        for (int i = 0; i < 5; i++) x.write(0, i, 10 + i);
        due.is("pour over itself, on", x, x.pour(0, 0, 0, 1, 4), true, 0);
        row(x, 0, 10, 10, 11, 12, 13);
        due.is("pour over itself, back", x, x.pour(0, 1, 0, 0, 4), true, 0);
        row(x, 0, 10, 11, 12, 13, 13);
        due.is("pour to another", x, x.pour(0, 2, 1, 1, 3), true, 0);
        row(x, 1, 0, 12, 13, 13);
        due.is("pour none at the end", x, x.pour(0, 5, 1, 4, 0), true, 0);
        due.is("no such tray", x, x.pour(0, 0, 4, 0, 1), false, 1);
        due.is("no such tray, missing", x, x.pour(3, 0, -1, 0, 1), false, 1);
        due.is("missing, ahead of unlike sorts", x, x.pour(2, 0, 3, 0, 1), false, 3);
        due.is("missing, the first", x, x.pour(3, 0, 0, 0, -1), false, 3);
        due.is("unlike sorts, ahead of below 0", x, x.pour(0, 0, 2, 0, -1), false, 11);
        due.is("below 0, ahead of places", x, x.pour(0, 9, 1, 0, -1), false, 6);
        due.is("too few from", x, x.pour(0, 3, 1, 0, 3), false, 4);
        due.is("too few to", x, x.pour(0, 0, 1, 2, 3), false, 4);
        due.is("from below", x, x.pour(0, -1, 1, 0, 1), false, 4);
        due.is("to below", x, x.pour(0, 0, 1, -1, 1), false, 4);
        due.is("from behind", x, x.pour(0, 6, 1, 0, 0), false, 4);
        int much = Integer.MAX_VALUE;
        due.is("far too many", x, x.pour(0, 1, 1, 1, much), false, 4);
        row(x, 0, 10, 11, 12, 13, 13);
        row(x, 1, 0, 12, 13, 13);
    }

    /** Promise 8: all of a TRAY, none, the last place; the numbers come as they were. */
    private static void pouredToTheBrim() {
        DarkRing x = new DarkRing();
        x.tray(0, 3, 60);
        x.tray(1, 3, 60);
        x.tray(2, 3, 0);
        for (int i = 0; i < 60; i++) x.write(0, i, Long.MIN_VALUE + i);
        due.is("sixty", x, x.pour(0, 0, 1, 0, 60), true, 0);
        for (int i = 0; i < 60; i += 59) due.is("read(1, " + i + ")", x, x.read(1, i), Long.MIN_VALUE + i, 0);
        due.is("sixty-one", x, x.pour(0, 0, 1, 0, 61), false, 4);
        due.is("sixty from 1", x, x.pour(0, 1, 1, 0, 60), false, 4);
        due.is("sixty to 1", x, x.pour(0, 0, 1, 1, 60), false, 4);
        due.is("sixty in place", x, x.pour(0, 0, 0, 0, 60), true, 0);
        due.is("the last to the first", x, x.pour(0, 59, 0, 0, 1), true, 0);
        due.is("read(0, 0)", x, x.read(0, 0), Long.MIN_VALUE + 59, 0);
        due.is("fifty-nine one on", x, x.pour(1, 0, 1, 1, 59), true, 0);
        for (int i = 1; i < 60; i++) due.is("read(1, " + i + ")", x, x.read(1, i), Long.MIN_VALUE + i - 1, 0);
        due.is("fifty-nine one back", x, x.pour(1, 1, 1, 0, 59), true, 0);
        for (int i = 0; i < 59; i++) due.is("read(1, " + i + ")", x, x.read(1, i), Long.MIN_VALUE + i, 0);
        due.is("none from an empty one", x, x.pour(2, 0, 0, 0, 0), true, 0);
        due.is("none to an empty one", x, x.pour(0, 0, 2, 0, 0), true, 0);
        due.is("one from an empty one", x, x.pour(2, 0, 0, 0, 1), false, 4);
        due.is("one to an empty one", x, x.pour(0, 0, 2, 0, 1), false, 4);
    }

    /** Promise 8: of two reasons 1, 3, 11, 6, 4, in this order; promises 5 to 7: 1 ahead of 5, 6, 3, 4. */
    private static void inWhichOrder() {
        DarkRing x = new DarkRing();
        x.tray(0, 0, 2);
        x.tray(1, 1, 2);
        due.is("1 ahead of 3", x, x.pour(2, 0, 4, 0, 1), false, 1);
        due.is("1 ahead of 11", x, x.pour(-1, 0, 1, 0, 1), false, 1);
        due.is("1 ahead of 6", x, x.pour(0, 0, 4, 0, -1), false, 1);
        due.is("1 ahead of 4", x, x.pour(4, 9, 0, 0, 1), false, 1);
        due.is("3 ahead of 6", x, x.pour(0, 0, 2, 0, -1), false, 3);
        due.is("3 ahead of 4", x, x.pour(2, 9, 0, 9, 1), false, 3);
        due.is("11 ahead of 6", x, x.pour(0, 0, 1, 0, -1), false, 11);
        due.is("11 ahead of 4", x, x.pour(0, 2, 1, 0, 1), false, 11);
        due.is("6 ahead of 4", x, x.pour(0, 3, 0, -1, -1), false, 6);
        due.is("1 ahead of 5", x, x.tray(0, 4, 61), false, 1);
        due.is("1 ahead of 5", x, x.tray(4, 0, 61), false, 1);
        due.is("1 ahead of 6", x, x.tray(0, -1, -1), false, 1);
        due.is("write: 1 ahead of 4", x, x.write(4, -1, 0), false, 1);
        due.is("write: 3 ahead of 4", x, x.write(2, -1, 0), false, 3);
        due.is("read: 1 ahead of 4", x, x.read(-1, 60), -1, 1);
        due.is("read: 3 ahead of 4", x, x.read(3, 60), -1, 3);
    }

    /** An object is used for 512 calls: the last one is answered as the first. */
    private static void latestCall() {
        DarkRing x = new DarkRing();
        x.tray(0, 3, 2);
        x.write(0, 0, 1);
        x.write(0, 1, 1);
        for (int i = 0; i < 254; i++) {
            x.write(0, i & 1, x.read(0, i & 1) + 1);
        }
        due.is("call 512", x.read(0, 1), 128);
    }

    private static void row(DarkRing x, int tray, long... numbers) {
        for (int i = 0; i < numbers.length; i++) {
            due.is("read(" + tray + ", " + i + ")", x, x.read(tray, i), numbers[i], 0);
        }
    }
}
