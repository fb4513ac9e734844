import java.util.ArrayList;
import java.util.List;

/** What can be seen of an object, so that two of them, or one ahead of a call and behind it, can be compared. */
final class Seen {
    private final DarkRing x;
    private final List<String> all = new ArrayList<>();

    private Seen(DarkRing x) {
        this.x = x;
    }

    /** All that calls tell without changing more than STATUS. */
    static List<String> now(DarkRing x) {
        Seen seen = new Seen(x);
        seen.fractionAndFault();
        seen.house();
        seen.hands();
        seen.thought();
        seen.trays();
        seen.foundAndPlayed();
        return seen.all;
    }

    /** The RULE, the tape and the MARKS, too: the object is not the same behind it. */
    static List<String> toTheEnd(DarkRing x) {
        List<String> all = now(x);
        Seen seen = new Seen(x);
        seen.rule();
        seen.tape();
        seen.marks();
        all.addAll(seen.all);
        return all;
    }

    /** Where the rows differ; empty if they don't. */
    static String difference(List<String> one, List<String> other) {
        for (int i = 0; i < one.size() && i < other.size(); i++) {
            if (!one.get(i).equals(other.get(i))) return one.get(i) + " became " + other.get(i);
        }
        return one.size() == other.size() ? "" : one.size() + " rows became " + other.size();
    }

    private void add(String what, long answer) {
        all.add(what + " " + answer + ", status " + x.status());
    }

    private void fractionAndFault() {
        all.add("the fraction " + x.top() + "/" + x.bottom());
        all.add("the fault " + x.fault(0) + " at " + x.fault(1));
    }

    private void house() {
        for (int what = 0; what < 11; what++) add("many(" + what + ")", x.many(what));
        int features = x.many(0);
        for (int f = 0; f < features; f++) {
            int steps = x.feature(f, 0);
            add("steps of feature " + f, steps);
            add("turned feature " + f, x.feature(f, 1));
            for (int i = 0; i < steps * steps; i++) add("feels " + f + ", " + i, x.feels(f, i / steps, i % steps));
        }
        int keys = x.many(1);
        for (int i = 0; i < keys * features; i++) add("step " + i, x.stepOf(i / features, i % features));
        int doors = x.many(3);
        for (int i = 0; i < 2 * doors; i++) add("door " + i, x.door(i / 2, i % 2));
        int round = x.many(4);
        for (int k = 0; k < round; k++) add("round(" + k + ")", x.round(k));
    }

    /** The orders, what lies about, who is LENT. */
    private void hands() {
        int keys = x.many(1);
        for (int key = 0; key < keys; key++) {
            for (int what = 0; what < 3; what++) add("key(" + key + ", " + what + ")", x.key(key, what));
        }
    }

    private void thought() {
        int held = x.many(10);
        int places = held == DarkRing.NONE ? 0 : x.ring(held, DarkRing.NONE);
        for (int i = 0; i < 2 * places; i++) add("part(" + i / 2 + ", " + i % 2 + ")", x.part(i / 2, i % 2));
    }

    private void trays() {
        for (int tray = 0; tray < 4; tray++) {
            long number = x.read(tray, 0);
            for (int place = 0; x.status() == 0; place++) {
                add("read(" + tray + ", " + place + ")", number);
                number = x.read(tray, place + 1);
            }
            add("the end of tray " + tray, number);
        }
    }

    private void foundAndPlayed() {
        int k = 0;
        while (x.found(k) != DarkRing.NONE) {
            add("found(" + k + ")", x.found(k));
            k++;
        }
        for (int what = 0; what < 7; what++) add("played(" + what + ")", x.played(what));
    }

    private void rule() {
        for (int ring = 0; ring < x.many(2); ring++) {
            add("play(" + ring + ", 0, 77)", x.play(ring, 0, 77));
            for (int what = 0; what < 7; what++) add("played(" + what + ")", x.played(what));
        }
    }

    private void tape() {
        int fed = x.feed(0, 0, 0, 0, 0);
        all.add("the tape " + fed);
        if (fed == DarkRing.NONE) fed = 900;
        add("the tape's text", x.house(fed));
        all.add("its fault " + x.fault(0) + " at " + x.fault(1));
    }

    private void marks() {
        int left = x.back();
        while (x.status() == 0) {
            add("back()", left);
            for (int what = 0; what < 11; what++) add("many(" + what + ")", x.many(what));
            hands();
            thought();
            rule();
            left = x.back();
        }
    }
}
