/** Promises 1 to 8: a new object, status, the fraction, trays. */
public final class TraysTest {
    private static final Due due = new Due();

    public static void main(String[] args) {
        fresh();
        made();
        cut();
        poured();
        due.end("TraysTest");
    }

    /** Promise 1, and of 2, 3, 4 what holds ahead of any call. */
    private static void fresh() {
        DarkRing x = new DarkRing();
        due.is("status()", x.status(), 0);
        due.fraction("new", x, 0, 1);
        due.is("fault(0)", x.fault(0), -1);
        due.is("fault(1)", x.fault(1), -1);
        due.is("status() behind fault()", x.status(), 0);
        for (int t = 0; t < 4; t++) due.is("read(" + t + ", 0)", x, x.read(t, 0), -1, 3);
        int[] many = {0, 0, 0, 0, 0, 1, 4, 1, 9, 8, -1};
        for (int what = 0; what < many.length; what++) due.is("many(" + what + ")", x, x.many(what), many[what], 0);
        due.is("feature(0, 0)", x, x.feature(0, 0), -1, 2);
        due.is("key(0, 2)", x, x.key(0, 2), -1, 2);
        due.is("ring(0, NONE)", x, x.ring(0, -1), -1, 2);
        due.is("door(0, 0)", x, x.door(0, 0), -1, 2);
        due.is("round(0)", x, x.round(0), -1, 8);
        due.is("part(0, 0)", x, x.part(0, 0), -1, 8);
        due.is("found(0)", x, x.found(0), -1, 8);
        due.is("played(0)", x, x.played(0), -1, 8);
        due.is("back()", x, x.back(), -1, 8);
        due.is("an empty tape", x, x.house(1), -1, 5);
        due.is("house(0)", x, x.house(0), 0, 0);
        due.is("rule(0)", x, x.rule(0), 0, 0);
        due.is("DarkRing.NONE", DarkRing.NONE, -1);
    }

    /** Promise 5, and 2: the latest call's status. */
    private static void made() {
        DarkRing x = new DarkRing();
        due.is("tray(0, 0, 60)", x, x.tray(0, 0, 60), true, 0);
        due.is("read(0, 59)", x, x.read(0, 59), 0, 0);
        due.is("read(0, 60)", x, x.read(0, 60), -1, 4);
        due.is("tray(4, 0, 1)", x, x.tray(4, 0, 1), false, 1);
        due.is("tray(-1, 0, 1)", x, x.tray(-1, 0, 1), false, 1);
        due.is("tray(0, 4, 1)", x, x.tray(0, 4, 1), false, 1);
        due.is("tray(0, -1, 61)", x, x.tray(0, -1, 61), false, 1);
        due.is("tray(0, 0, 61)", x, x.tray(0, 0, 61), false, 5);
        due.is("tray(0, 0, -1)", x, x.tray(0, 0, -1), false, 6);
        due.is("nothing changed", x, x.read(0, 59), 0, 0);
        due.is("tray(3, 3, 0)", x, x.tray(3, 3, 0), true, 0);
        due.is("read(3, 0)", x, x.read(3, 0), -1, 4);
        x.write(0, 2, 7);
        due.is("tray(0, 1, 3)", x, x.tray(0, 1, 3), true, 0);
        due.is("all 0 again", x, x.read(0, 2), 0, 0);
        due.is("shorter", x, x.read(0, 3), -1, 4);
    }

    /** Promises 6 and 7. */
    private static void cut() {
        long v = 0x123456789ABCDEF0L;
        long[] kept = {(byte) v, (short) v, (int) v, v};
        DarkRing x = new DarkRing();
        for (int sort = 0; sort < 4; sort++) {
            x.tray(sort, sort, 2);
            due.is("write(" + sort + ", 1, v)", x, x.write(sort, 1, v), true, 0);
            due.is("read(" + sort + ", 1)", x, x.read(sort, 1), kept[sort], 0);
            due.is("read(" + sort + ", 0)", x, x.read(sort, 0), 0, 0);
            x.write(sort, 0, -1);
            due.is("-1 is told by 0", x, x.read(sort, 0), -1, 0);
        }
        due.is("write(4, 0, 0)", x, x.write(4, 0, 0), false, 1);
        due.is("write(0, 2, 0)", x, x.write(0, 2, 0), false, 4);
        due.is("write(0, -1, 0)", x, x.write(0, -1, 0), false, 4);
        due.is("read(-1, 0)", x, x.read(-1, 0), -1, 1);
        due.is("read(0, -1)", x, x.read(0, -1), -1, 4);
        due.is("write to what is missing", new DarkRing().write(1, 0, 0), false);
        DarkRing y = new DarkRing();
        due.is("write(1, 5, 0)", y, y.write(1, 5, 0), false, 3);
    }

    /** Promise 8. */
    private static void poured() {
        DarkRing x = new DarkRing();
        x.tray(0, 1, 5);
        x.tray(1, 1, 4);
        x.tray(2, 2, 4);
        for (int i = 0; i < 5; i++) x.write(0, i, 10 + i);
        due.is("pour over itself, on", x, x.pour(0, 0, 0, 1, 4), true, 0);
        row(x, 0, 10, 10, 11, 12, 13);
        due.is("pour over itself, back", x, x.pour(0, 1, 0, 0, 4), true, 0);
        row(x, 0, 10, 11, 12, 13, 13);
        due.is("pour to another", x, x.pour(0, 2, 1, 1, 3), true, 0);
        row(x, 1, 0, 12, 13, 13);
        due.is("pour none at the end", x, x.pour(0, 5, 1, 4, 0), true, 0);
        due.is("no such tray", x, x.pour(0, 0, 4, 0, 1), false, 1);
        due.is("no such tray, missing", x, x.pour(3, 0, -1, 0, 1), false, 1);
        due.is("missing, ahead of unlike sorts", x, x.pour(2, 0, 3, 0, 1), false, 3);
        due.is("missing, the first", x, x.pour(3, 0, 0, 0, -1), false, 3);
        due.is("unlike sorts, ahead of below 0", x, x.pour(0, 0, 2, 0, -1), false, 11);
        due.is("below 0, ahead of places", x, x.pour(0, 9, 1, 0, -1), false, 6);
        due.is("too few from", x, x.pour(0, 3, 1, 0, 3), false, 4);
        due.is("too few to", x, x.pour(0, 0, 1, 2, 3), false, 4);
        due.is("from below", x, x.pour(0, -1, 1, 0, 1), false, 4);
        due.is("to below", x, x.pour(0, 0, 1, -1, 1), false, 4);
        due.is("from behind", x, x.pour(0, 6, 1, 0, 0), false, 4);
        int much = Integer.MAX_VALUE;
        due.is("far too many", x, x.pour(0, 1, 1, 1, much), false, 4);
        row(x, 0, 10, 11, 12, 13, 13);
        row(x, 1, 0, 12, 13, 13);
    }

    private static void row(DarkRing x, int tray, long... numbers) {
        for (int i = 0; i < numbers.length; i++) {
            due.is("read(" + tray + ", " + i + ")", x, x.read(tray, i), numbers[i], 0);
        }
    }
}
