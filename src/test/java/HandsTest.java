/** Promises 21 to 24: what hands do with keys and rings. */
public final class HandsTest {
    private static final Due due = new Due();
    private static final String HOUSE = "key a;key b;key c;key d;key e;ring r a b c;ring q d;ring p;";

    public static void main(String[] args) {
        laid();
        laidWrong();
        lent();
        put();
        off();
        due.end("HandsTest");
    }

    private static DarkRing fresh() {
        DarkRing x = new DarkRing();
        Due.house(x, HOUSE);
        return x;
    }

    private static void tray(DarkRing x, int tray, int sort, long... numbers) {
        x.tray(tray, sort, numbers.length);
        for (int i = 0; i < numbers.length; i++) x.write(tray, i, numbers[i]);
    }

    private static void ring(DarkRing x, int ring, int... keys) {
        due.is("ring(" + ring + ", NONE)", x, x.ring(ring, -1), keys.length, 0);
        for (int k = 0; k < keys.length; k++) due.is("ring(" + ring + ", " + k + ")", x, x.ring(ring, k), keys[k], 0);
    }

    private static void laid() {
        DarkRing x = fresh();
        tray(x, 3, 3, 2, 0, 1);
        x.take(0);
        due.is("lay(0, 3)", x, x.lay(0, 3), true, 0);
        ring(x, 0, 2, 0, 1);
        due.is("not held any more", x, x.many(10), -1, 0);
        x.take(1);
        due.is("lay(0, 3) again", x, x.lay(0, 3), true, 0);
        due.is("another ring stays held", x, x.many(10), 1, 0);
        x.lend(0, true);
        due.is("lent ones are laid, too", x, x.lay(0, 3), true, 0);
        ring(x, 0, 2, 1);
        tray(x, 0, 0, 1, 2);
        due.is("all that are on it", x, x.lay(0, 0), false, 4);
        tray(x, 0, 0);
        due.is("an empty ring", x, x.lay(2, 0), true, 0);
    }

    private static void laidWrong() {
        DarkRing x = fresh();
        x.take(0);
        due.is("no such tray", x, x.lay(9, 4), false, 1);
        due.is("no such tray", x, x.lay(0, -1), false, 1);
        due.is("no such ring", x, x.lay(3, 0), false, 2);
        due.is("no such ring", x, x.lay(-1, 0), false, 2);
        due.is("a tray that is missing", x, x.lay(0, 0), false, 3);
        tray(x, 0, 0, 7, 7);
        due.is("too few numbers, ahead of wrong ones", x, x.lay(0, 0), false, 4);
        tray(x, 0, 0, 0, 1, 3);
        due.is("another key", x, x.lay(0, 0), false, 5);
        tray(x, 0, 0, 0, 1, 1);
        due.is("one again", x, x.lay(0, 0), false, 5);
        tray(x, 0, 0, 0, 1, -1);
        due.is("below 0", x, x.lay(0, 0), false, 5);
        tray(x, 0, 3, 0, 1, 2 + (1L << 32));
        due.is("far above", x, x.lay(0, 0), false, 5);
        tray(x, 0, 3, 0, 1, 34);
        due.is("above", x, x.lay(0, 0), false, 5);
        tray(x, 0, 0, 0, 1, 2, 0);
        due.is("one again behind all", x, x.lay(0, 0), false, 5);
        ring(x, 0, 0, 1, 2);
        due.is("held still", x, x.many(10), 0, 0);
    }

    private static void lent() {
        DarkRing x = fresh();
        x.take(0);
        due.is("lend(3, true)", x, x.lend(3, true), true, 0);
        due.is("another ring is held still", x, x.many(10), 0, 0);
        due.is("lend(1, true)", x, x.lend(1, true), true, 0);
        due.is("not held any more", x, x.many(10), -1, 0);
        ring(x, 0, 0, 2);
        ring(x, 1);
        due.is("lent", x, x.key(1, 2), 1, 0);
        due.is("lend(1, false)", x, x.lend(1, false), true, 0);
        ring(x, 0, 0, 1, 2);
        x.take(0);
        due.is("lend(1, false) again", x, x.lend(1, false), true, 0);
        due.is("not held any more", x, x.many(10), -1, 0);
        x.take(0);
        due.is("one that lies about", x, x.lend(4, true), true, 0);
        due.is("held still", x, x.many(10), 0, 0);
        due.is("lend(5, true)", x, x.lend(5, true), false, 2);
        due.is("lend(-1, true)", x, x.lend(-1, true), false, 2);
    }

    private static void put() {
        DarkRing x = fresh();
        x.take(0);
        due.is("put(4, 3, 9)", x, x.put(4, 3, 9), false, 2);
        due.is("put(5, 0, 0)", x, x.put(5, 0, 0), false, 2);
        due.is("put(4, 0, 4)", x, x.put(4, 0, 4), false, 5);
        due.is("put(3, 0, -1)", x, x.put(3, 0, -1), false, 5);
        due.is("put(3, 0, 0)", x, x.put(3, 0, 0), false, 9);
        due.is("held still", x, x.many(10), 0, 0);
        x.lend(3, true);
        due.is("put(4, 1, 0)", x, x.put(4, 1, 0), true, 0);
        due.is("another ring is held still", x, x.many(10), 0, 0);
        due.is("its place among all", x, x.key(3, 1), 1, 0);
        x.off(4);
        due.is("put(4, 0, 1)", x, x.put(4, 0, 1), true, 0);
        due.is("not held any more", x, x.many(10), -1, 0);
        ring(x, 0, 0, 4, 1, 2);
        x.off(4);
        x.put(4, 0, 3);
        ring(x, 0, 0, 1, 2, 4);
        x.off(4);
        x.put(4, 0, 0);
        ring(x, 0, 4, 0, 1, 2);
        x.off(4);
        x.lend(4, true);
        due.is("a lent one is put", x, x.put(4, 2, 0), true, 0);
        ring(x, 2);
        due.is("it is on it", x, x.key(4, 0), 2, 0);
    }

    private static void off() {
        DarkRing x = fresh();
        x.take(0);
        due.is("off(3)", x, x.off(3), true, 0);
        due.is("another ring is held still", x, x.many(10), 0, 0);
        due.is("off(3) again", x, x.off(3), false, 8);
        due.is("off(4)", x, x.off(4), false, 8);
        due.is("off(5)", x, x.off(5), false, 2);
        due.is("off(-1)", x, x.off(-1), false, 2);
        due.is("off(1)", x, x.off(1), true, 0);
        due.is("not held any more", x, x.many(10), -1, 0);
        ring(x, 0, 0, 2);
        due.is("it lies about", x, x.key(1, 0), -1, 8);
        due.is("the others come up", x, x.key(2, 1), 1, 0);
        x.off(0);
        x.off(2);
        ring(x, 0);
    }
}
