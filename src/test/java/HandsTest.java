/** Promises 21 to 24: what hands do with keys and rings. */
public final class HandsTest {
    private static final Due due = new Due();
    private static final String HOUSE = "key a;key b;key c;key d;key e;ring r a b c;ring q d;ring p;";

    public static void main(String[] args) {
        laid();
        laidBySorts();
        laidWrong();
        laidInWhichOrder();
        lent();
        put();
        putToTheBrim();
        off();
        lentAndPutAndOff();
        heldOrNot();
        due.end("HandsTest");
    }

    private static DarkRing fresh() {
        DarkRing x = new DarkRing();
        Due.house(x, HOUSE);
        return x;
    }

    private static void tray(DarkRing x, int tray, int sort, long... numbers) {
        x.tray(tray, sort, numbers.length);
        for (int i = 0; i < numbers.length; i++) x.write(tray, i, numbers[i]);
    }

    private static void ring(DarkRing x, int ring, int... keys) {
        due.is("ring(" + ring + ", NONE)", x, x.ring(ring, -1), keys.length, 0);
        for (int k = 0; k < keys.length; k++) due.is("ring(" + ring + ", " + k + ")", x, x.ring(ring, k), keys[k], 0);
    }

    private static void laid() {
        DarkRing x = fresh();
        tray(x, 3, 3, 2, 0, 1);
        x.take(0);
        due.is("lay(0, 3)", x, x.lay(0, 3), true, 0);
        ring(x, 0, 2, 0, 1);
        due.is("not held any more", x, x.many(10), -1, 0);
        x.take(1);
        due.is("lay(0, 3) again", x, x.lay(0, 3), true, 0);
        due.is("another ring stays held", x, x.many(10), 1, 0);
        x.lend(0, true);
        due.is("lent ones are laid, too", x, x.lay(0, 3), true, 0);
        ring(x, 0, 2, 1);
        tray(x, 0, 0, 1, 2);
        due.is("all that are on it", x, x.lay(0, 0), false, 4);
        tray(x, 0, 0);
        due.is("an empty ring", x, x.lay(2, 0), true, 0);
    }

    /** Promise 21: a TRAY of any sort, rings of ten KEYS, one, none; the same order is fine, too. */
    private static void laidBySorts() {
        for (int sort = 0; sort < 4; sort++) {
            DarkRing x = fresh();
            tray(x, 1, sort, 2, 1, 0);
            due.is("sort " + sort, x, x.lay(0, 1), true, 0);
            ring(x, 0, 2, 1, 0);
            due.is("the same again", x, x.lay(0, 1), true, 0);
            ring(x, 0, 2, 1, 0);
            tray(x, 1, sort, 3);
            due.is("one", x, x.lay(1, 1), true, 0);
            ring(x, 1, 3);
            tray(x, 1, sort);
            due.is("none", x, x.lay(2, 1), true, 0);
            ring(x, 2);
            due.is("none for one", x, x.lay(1, 1), false, 4);
        }
        DarkRing x = new DarkRing();
        Due.house(x, "key a;key b;key c;key d;key e;key f;key g;key h;key i;key j;ring r a b c d e f g h i j;");
        tray(x, 0, 0, 9, 8, 7, 6, 5, 4, 3, 2, 1, 0);
        due.is("ten", x, x.lay(0, 0), true, 0);
        ring(x, 0, 9, 8, 7, 6, 5, 4, 3, 2, 1, 0);
        x.write(0, 9, 10);
        due.is("no such key at the end", x, x.lay(0, 0), false, 5);
        x.write(0, 9, 9);
        due.is("the first again at the end", x, x.lay(0, 0), false, 5);
        tray(x, 0, 0, 0, 1, 2, 3, 4, 5, 6, 7, 8);
        due.is("nine for ten", x, x.lay(0, 0), false, 4);
        ring(x, 0, 9, 8, 7, 6, 5, 4, 3, 2, 1, 0);
    }

    /** Promise 21: 1, 2, 3, 4, 5, in this order. */
    private static void laidInWhichOrder() {
        DarkRing x = fresh();
        tray(x, 1, 0, 9, 9);
        due.is("1 ahead of 2", x, x.lay(3, 4), false, 1);
        due.is("1 ahead of 2", x, x.lay(-1, -1), false, 1);
        due.is("2 ahead of 3", x, x.lay(3, 0), false, 2);
        due.is("2 ahead of 5", x, x.lay(-1, 1), false, 2);
        due.is("3 ahead of 4", x, x.lay(0, 0), false, 3);
        due.is("3, an empty ring", x, x.lay(2, 0), false, 3);
        due.is("4 ahead of 5", x, x.lay(0, 1), false, 4);
        tray(x, 1, 0, 9, 9, 9);
        due.is("5", x, x.lay(0, 1), false, 5);
        tray(x, 1, 0, 0, 1, 4);
        due.is("one that lies about", x, x.lay(0, 1), false, 5);
        tray(x, 1, 0, 0);
        due.is("one of another ring", x, x.lay(1, 1), false, 5);
        x.lend(2, true);
        tray(x, 1, 0, 0, 1);
        due.is("without the lent one", x, x.lay(0, 1), false, 4);
        tray(x, 1, 0, 2, 0, 1);
        due.is("with it", x, x.lay(0, 1), true, 0);
        due.is("its place", x, x.key(2, 1), 0, 0);
        ring(x, 0, 0, 1);
    }

    private static void laidWrong() {
        DarkRing x = fresh();
        x.take(0);
        due.is("no such tray", x, x.lay(9, 4), false, 1);
        due.is("no such tray", x, x.lay(0, -1), false, 1);
        due.is("no such ring", x, x.lay(3, 0), false, 2);
        due.is("no such ring", x, x.lay(-1, 0), false, 2);
        due.is("a tray that is missing", x, x.lay(0, 0), false, 3);
        tray(x, 0, 0, 7, 7);
        due.is("too few numbers, ahead of wrong ones", x, x.lay(0, 0), false, 4);
        tray(x, 0, 0, 0, 1, 3);
        due.is("another key", x, x.lay(0, 0), false, 5);
        tray(x, 0, 0, 0, 1, 1);
        due.is("one again", x, x.lay(0, 0), false, 5);
        tray(x, 0, 0, 0, 1, -1);
        due.is("below 0", x, x.lay(0, 0), false, 5);
        tray(x, 0, 3, 0, 1, 2 + (1L << 32));
        due.is("far above", x, x.lay(0, 0), false, 5);
        tray(x, 0, 3, 0, 1, 34);
        due.is("above", x, x.lay(0, 0), false, 5);
        tray(x, 0, 0, -32, 1, 2);
        due.is("far below 0", x, x.lay(0, 0), false, 5);
        tray(x, 0, 3, Long.MIN_VALUE, 1, 2);
        due.is("as far below 0 as can be", x, x.lay(0, 0), false, 5);
        tray(x, 0, 3, 0, 1, Long.MAX_VALUE);
        due.is("as far above as can be", x, x.lay(0, 0), false, 5);
        tray(x, 0, 0, 0, 1, 2, 0);
        due.is("one again behind all", x, x.lay(0, 0), false, 5);
        ring(x, 0, 0, 1, 2);
        due.is("held still", x, x.many(10), 0, 0);
    }

    private static void lent() {
        DarkRing x = fresh();
        x.take(0);
        due.is("lend(3, true)", x, x.lend(3, true), true, 0);
        due.is("another ring is held still", x, x.many(10), 0, 0);
        due.is("lend(1, true)", x, x.lend(1, true), true, 0);
        due.is("not held any more", x, x.many(10), -1, 0);
        ring(x, 0, 0, 2);
        ring(x, 1);
        due.is("lent", x, x.key(1, 2), 1, 0);
        due.is("lend(1, false)", x, x.lend(1, false), true, 0);
        ring(x, 0, 0, 1, 2);
        x.take(0);
        due.is("lend(1, false) again", x, x.lend(1, false), true, 0);
        due.is("not held any more", x, x.many(10), -1, 0);
        x.take(0);
        due.is("one that lies about", x, x.lend(4, true), true, 0);
        due.is("held still", x, x.many(10), 0, 0);
        due.is("lend(5, true)", x, x.lend(5, true), false, 2);
        due.is("lend(-1, true)", x, x.lend(-1, true), false, 2);
    }

    private static void put() {
        DarkRing x = fresh();
        x.take(0);
        due.is("put(4, 3, 9)", x, x.put(4, 3, 9), false, 2);
        due.is("put(5, 0, 0)", x, x.put(5, 0, 0), false, 2);
        due.is("put(4, 0, 4)", x, x.put(4, 0, 4), false, 5);
        due.is("put(3, 0, -1)", x, x.put(3, 0, -1), false, 5);
        due.is("put(3, 0, 0)", x, x.put(3, 0, 0), false, 9);
        due.is("held still", x, x.many(10), 0, 0);
        x.lend(3, true);
        due.is("put(4, 1, 0)", x, x.put(4, 1, 0), true, 0);
        due.is("another ring is held still", x, x.many(10), 0, 0);
        due.is("its place among all", x, x.key(3, 1), 1, 0);
        x.off(4);
        due.is("put(4, 0, 1)", x, x.put(4, 0, 1), true, 0);
        due.is("not held any more", x, x.many(10), -1, 0);
        ring(x, 0, 0, 4, 1, 2);
        x.off(4);
        x.put(4, 0, 3);
        ring(x, 0, 0, 1, 2, 4);
        x.off(4);
        x.put(4, 0, 0);
        ring(x, 0, 4, 0, 1, 2);
        x.off(4);
        x.lend(4, true);
        due.is("a lent one is put", x, x.put(4, 2, 0), true, 0);
        ring(x, 2);
        due.is("it is on it", x, x.key(4, 0), 2, 0);
    }

    /** Promise 23: all ten on one RING, at its end, its beginning, its middle; 0 to how many, lent ones counted. */
    private static void putToTheBrim() {
        DarkRing x = new DarkRing();
        Due.house(x, "key a;key b;key c;key d;key e;key f;key g;key h;key i;key j;ring r;ring q;");
        for (int key = 0; key < 9; key++) {
            due.is("one behind the end", x, x.put(key, 0, key + 1), false, 5);
            due.is("at the end", x, x.put(key, 0, key), true, 0);
        }
        due.is("ahead of 0", x, x.put(9, 0, -1), false, 5);
        due.is("in the middle", x, x.put(9, 0, 4), true, 0);
        ring(x, 0, 0, 1, 2, 3, 9, 4, 5, 6, 7, 8);
        due.is("5 ahead of 9", x, x.put(9, 0, 11), false, 5);
        due.is("9 at the end of ten", x, x.put(9, 0, 10), false, 9);
        for (int key = 9; key >= 0; key--) due.is("off(" + key + ")", x, x.off(key), true, 0);
        ring(x, 0);
        for (int key = 0; key < 10; key++) due.is("ahead of all", x, x.put(key, 1, 0), true, 0);
        ring(x, 1, 9, 8, 7, 6, 5, 4, 3, 2, 1, 0);
        x.off(4);
        x.lend(9, true);
        x.lend(0, true);
        due.is("behind nine, two lent", x, x.put(4, 1, 10), false, 5);
        due.is("at the end of nine, two lent", x, x.put(4, 1, 9), true, 0);
        ring(x, 1, 8, 7, 6, 5, 3, 2, 1, 4);
        due.is("its place among all", x, x.key(4, 1), 9, 0);
    }

    /** Promises 22 to 24: who is LENT stays so off a RING and on another one. */
    private static void lentAndPutAndOff() {
        DarkRing x = fresh();
        x.lend(1, true);
        due.is("a lent one comes off", x, x.off(1), true, 0);
        due.is("lent still", x, x.key(1, 2), 1, 0);
        due.is("the next one's place", x, x.key(2, 1), 1, 0);
        due.is("on another ring", x, x.put(1, 1, 1), true, 0);
        due.is("lent still", x, x.key(1, 2), 1, 0);
        ring(x, 1, 3);
        due.is("not any more", x, x.lend(1, false), true, 0);
        ring(x, 1, 3, 1);
        due.is("lent again", x, x.lend(1, true), true, 0);
        due.is("and again", x, x.lend(1, true), true, 0);
        due.is("once not", x, x.lend(1, false), true, 0);
        due.is("is enough", x, x.key(1, 2), 0, 0);
        due.is("the last key that is", x, x.lend(4, true), true, 0);
        due.is("the first that is not", x, x.lend(5, false), false, 2);
        for (int key = 0; key < 5; key++) due.is("key(" + key + ", 2)", x, x.key(key, 2), key == 4 ? 1 : 0, 0);
    }

    /** Promises 21 to 24: what is done to the RING that is HELD lets it go, to another one or to none it does not. */
    private static void heldOrNot() {
        String[] what = {"lay", "lend", "not lent", "put", "off", "lend one that lies about"};
        for (int held = 0; held < 2; held++) {
            for (int i = 0; i < what.length; i++) {
                DarkRing x = fresh();
                tray(x, 0, 0, 2, 1, 0);
                x.take(held);
                boolean is = true;
                if (i == 0) is = x.lay(0, 0);
                if (i == 1) is = x.lend(2, true);
                if (i == 2) is = x.lend(2, false);
                if (i == 3) is = x.put(4, 0, 1);
                if (i == 4) is = x.off(0);
                if (i == 5) is = x.lend(4, true);
                due.is(what[i], x, is, true, 0);
                boolean isHeld = held == 1 || i == 5;
                due.is(what[i] + ", held", x, x.many(10), isHeld ? held : -1, 0);
                due.is(what[i] + ", part(0, 0)", x, x.part(0, 0), isHeld ? held == 1 ? 500000 : 166670 : -1, isHeld ? 0 : 8);
            }
        }
    }

    private static void off() {
        DarkRing x = fresh();
        x.take(0);
        due.is("off(3)", x, x.off(3), true, 0);
        due.is("another ring is held still", x, x.many(10), 0, 0);
        due.is("off(3) again", x, x.off(3), false, 8);
        due.is("off(4)", x, x.off(4), false, 8);
        due.is("off(5)", x, x.off(5), false, 2);
        due.is("off(-1)", x, x.off(-1), false, 2);
        due.is("off(1)", x, x.off(1), true, 0);
        due.is("not held any more", x, x.many(10), -1, 0);
        ring(x, 0, 0, 2);
        due.is("it lies about", x, x.key(1, 0), -1, 8);
        due.is("the others come up", x, x.key(2, 1), 1, 0);
        x.off(0);
        x.off(2);
        ring(x, 0);
    }
}
