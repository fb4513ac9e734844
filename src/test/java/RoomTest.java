import java.lang.management.ManagementFactory;
import java.util.List;
import java.util.Random;

/** All calls of a run live in one room: a new object is small, and no call makes anything. */
public final class RoomTest {
    private static int answers = 0;

    public static void main(String[] args) {
        com.sun.management.ThreadMXBean room = (com.sun.management.ThreadMXBean) ManagementFactory.getThreadMXBean();
        Texts texts = new Texts(new Random(5));
        String house = "feature f steps 4 turned;feature g steps 3;feels g 8 8 0 4 4 8 0 0 16;key a 0 0;key b 1 1;"
                + "key c 2 2;key d 3 0;key e 0 1;key l 1 2;ring r a b c d e;ring q;door x wanted 4 by a c;"
                + "door y wanted 5 by d;seconds feel 1 try 2 go 3 drop 4;turned 5;round x y x y;";
        String rule = texts.rule(List.of("f", "g"), false);
        String wrong = "key a;key a;";
        run(house, rule, wrong);
        long before = room.getThreadAllocatedBytes(Thread.currentThread().getId());
        DarkRing x = new DarkRing();
        long made = room.getThreadAllocatedBytes(Thread.currentThread().getId());
        for (int i = 0; i < 5; i++) all(x, house, rule, wrong);
        long behind = room.getThreadAllocatedBytes(Thread.currentThread().getId());
        System.out.println("RoomTest: a new object " + (made - before) + " bytes, its calls " + (behind - made)
                + " bytes, " + answers + " answers");
        // What feeds the texts makes nothing, either; a few bytes are the machine's own.
        if (made - before > 40000 || behind - made > 4000) {
            System.out.println("too much is made");
            System.exit(1);
        }
    }

    /** Once ahead of what is measured: the machine makes things of its own for what it meets first. */
    private static void run(String house, String rule, String wrong) {
        for (int i = 0; i < 30; i++) all(new DarkRing(), house, rule, wrong);
    }

    private static void all(DarkRing x, String house, String rule, String wrong) {
        Due.house(x, wrong);
        Due.rule(x, wrong);
        Due.house(x, house);
        Due.rule(x, rule);
        x.tray(0, 2, 5);
        for (int i = 0; i < 5; i++) x.write(0, i, 4 - i);
        x.pour(0, 0, 0, 1, 0);
        answers += x.lay(0, 0) ? 1 : 0;
        x.mark();
        x.take(0);
        x.feel(1, 0);
        x.goOn();
        x.turn();
        x.tried(0, false);
        x.here(2);
        x.opens(1);
        answers += x.worth(0, 4) ? 1 : 0;
        answers += x.next(0, 4);
        answers += x.searched(0, 0, 2, 1);
        x.from(0, 0, 1);
        x.anywhere(0);
        answers += x.laid(0, true) + x.laid(0, false) + x.laidForRound(0) + x.inRow(0) + x.walked(0) + x.found(0);
        answers += x.alike(0) + x.apart(0, true) + x.filed(0, 3) + x.known(0, true);
        x.missing(3, 1, 4, 2);
        answers += x.soon(3, 1, 4, 9) + x.newly(5, 0, 0);
        answers += x.play(0, 0, 9) + x.tally(0, 1, 100, 30) + x.played(0);
        x.lend(2, true);
        x.off(0);
        x.put(0, 1, 0);
        answers += x.back();
    }
}
