import java.util.ArrayList;
import java.util.List;
import java.util.Random;

/** Long runs of calls at random, each answered by DarkRing and by the Model. */
public final class ModelTest {
    private static int wrong = 0;
    private static long calls = 0;
    private static int feltFirst = 0;
    private static final int[] OFTEN = new int[64 * 12];

    private final Random random;
    private final Texts texts;
    private final DarkRing x = new DarkRing();
    private final Model m = new Model();
    private final int run;

    private ModelTest(int run) {
        this.run = run;
        random = new Random(run);
        texts = new Texts(random);
    }

    public static void main(String[] args) {
        int runs = args.length > 0 ? Integer.parseInt(args[0]) : 400;
        for (int run = 0; run < runs && wrong < 20; run++) {
            new ModelTest(run).play();
        }
        for (int run = 0; run < 150 && wrong < 20; run++) {
            new ModelTest(run).playActs();
        }
        if (feltFirst < 50) {
            wrong++;
            System.out.println("to feel was best but " + feltFirst + " times");
        }
        for (int kind = 0; args.length > 1 && kind < 60; kind++) {
            StringBuilder row = new StringBuilder("kind " + kind + ":");
            for (int s = 0; s < 12; s++) row.append(' ').append(OFTEN[kind * 12 + s]);
            System.out.println(row);
        }
        System.out.println("ModelTest: " + calls + " calls, " + wrong + " answers unlike the model's");
        if (wrong != 0) System.exit(1);
    }

    private void play() {
        house();
        house();
        for (int i = 0; i < 330 && wrong < 20; i++) {
            one(random.nextInt(60));
        }
    }

    /** Long rings with one key that opens and a thumb that hardly errs: here it may be best to feel first. */
    private void playActs() {
        int keys = 4 + random.nextInt(4);
        StringBuilder house = new StringBuilder("feature f steps 2" + (once(2) ? " turned;" : ";"));
        house.append("feature g steps 4" + (once(3) ? " turned;" : ";"));
        if (once(2)) house.append("feels g 14 2 0 0 1 15 0 0 0 1 14 1 0 0 0 16;");
        if (once(3)) house.append("feels f 15 1 4 12;");
        for (int k = 0; k < keys; k++) {
            house.append("key ").append((char) ('m' + k)).append(' ').append(random.nextInt(2));
            house.append(' ').append(random.nextInt(4)).append(';');
        }
        house.append("ring a");
        for (int k = 0; k < keys; k++) house.append(' ').append((char) ('m' + k));
        house.append(";door d wanted 1 by ").append((char) ('m' + random.nextInt(keys)));
        house.append(";turned ").append(once(2) ? 0 : random.nextInt(17)).append(';');
        String text = house.toString();
        feed(text);
        compare(9, text, x.house(text.length()), m.house(text.length()));
        compare(24, "take(0)", n(x.take(0)), n(m.take(0)));
        for (int i = 0; i < 6; i++) {
            compare(31, "worth(0, 4)", n(x.worth(0, 4)), n(m.worth(0, 4)));
            compare(32, "next(0, 4)", x.next(0, 4), m.next(0, 4));
            if (x.next(0, 4) > 1) feltFirst++;
            second(24 + random.nextInt(5));
        }
    }

    private boolean once(int in) {
        return random.nextInt(in) == 0;
    }

    /** A number below n, now and then one that is not. */
    private int below(int n) {
        int[] odd = {-1, n, n + 1, -2, 60, 61, Integer.MIN_VALUE, Integer.MAX_VALUE, 1 << 16};
        return n <= 0 || once(25) ? odd[random.nextInt(odd.length)] : random.nextInt(n);
    }

    private int feature() {
        return below(m.home.features.size());
    }

    private int key() {
        return below(m.home.keys.size());
    }

    private int ring() {
        return below(m.home.rings.size());
    }

    private int door() {
        return below(m.home.doors.size());
    }

    private int place(int ring) {
        boolean is = ring >= 0 && ring < m.home.rings.size();
        return below(is ? m.home.rings.get(ring).size() + (once(4) ? 1 : 0) : 1);
    }

    private void compare(int kind, String call, long got, long due) {
        calls++;
        if (due == 10) OFTEN[60 * 12]++;
        OFTEN[kind * 12 + m.status]++;
        boolean same = got == due && x.status() == m.status && x.top() == m.top.longValueExact()
                && x.bottom() == m.bottom.longValueExact() && x.fault(0) == m.fault(0) && x.fault(1) == m.fault(1);
        if (same) return;
        wrong++;
        System.out.println("run " + run + ": " + call + " answered " + got + " status " + x.status() + " fraction "
                + x.top() + "/" + x.bottom() + " fault " + x.fault(0) + " at " + x.fault(1) + "; due is " + due
                + " status " + m.status + " fraction " + m.top + "/" + m.bottom + " fault " + m.fault(0) + " at "
                + m.fault(1));
    }

    private static long n(boolean b) {
        return b ? 1 : 0;
    }

    private void feed(String text) {
        StringBuilder padded = new StringBuilder(text);
        while (padded.length() % 20 != 0) padded.append((char) (once(50) ? 200 : 32));
        for (int i = 0; i < padded.length(); i += 20) {
            int[] v = new int[5];
            for (int j = 0; j < 20; j++) v[j / 4] = v[j / 4] << 8 | padded.charAt(i + j) & 255;
            compare(58, "feed", x.feed(v[0], v[1], v[2], v[3], v[4]), m.feed(v[0], v[1], v[2], v[3], v[4]));
        }
    }

    private void house() {
        if (m.tape.length() > 0) compare(9, "house(0)", x.house(0), m.house(0));
        String text = texts.house(once(3));
        feed(text);
        int n = once(12) ? below(text.length() + 1) : text.length();
        compare(9, "house(" + n + ") of [" + text + "]", x.house(n), m.house(n));
    }

    private void rule() {
        if (m.tape.length() > 0) compare(10, "rule(0)", x.rule(0), m.rule(0));
        List<String> features = new ArrayList<>();
        for (Model.Feature f : m.home.features) features.add(f.name);
        if (features.isEmpty() && once(3)) features.add("nobody");
        String text = texts.rule(features, once(3));
        feed(text);
        int n = once(12) ? below(text.length() + 1) : text.length();
        compare(10, "rule(" + n + ") of [" + text + "]", x.rule(n), m.rule(n));
    }

    private void one(int kind) {
        if (kind < 20) first(kind);
        else if (kind < 35) second(kind);
        else if (kind < 50) third(kind);
        else last(kind);
    }

    private void first(int kind) {
        int a = random.nextInt(5) - (once(9) ? 1 : 0);
        int b = random.nextInt(5) - (once(9) ? 1 : 0);
        switch (kind) {
            case 0: {
                int many = once(4) ? below(61) : random.nextInt(8);
                compare(kind, "tray", n(x.tray(a, b, many)), n(m.tray(a, b, many)));
                break;
            }
            case 1: {
                int place = below(a >= 0 && a < 4 && m.trays[a] != null ? m.trays[a].length : 1);
                long v = once(2) ? random.nextInt(10) : random.nextLong() >> random.nextInt(64);
                compare(kind, "write", n(x.write(a, place, v)), n(m.write(a, place, v)));
                break;
            }
            case 2: {
                int place = below(a >= 0 && a < 4 && m.trays[a] != null ? m.trays[a].length : 1);
                compare(kind, "read", x.read(a, place), m.read(a, place));
                break;
            }
            case 3: {
                int i = below(4);
                int j = below(4);
                int many = below(5);
                compare(kind, "pour", n(x.pour(a, i, b, j, many)), n(m.pour(a, i, b, j, many)));
                break;
            }
            case 4:
                if (once(6)) house();
                break;
            case 5:
                rule();
                break;
            case 6: {
                int what = below(11);
                compare(kind, "many(" + what + ")", x.many(what), m.many(what));
                break;
            }
            case 7: {
                int f = feature();
                int what = below(2);
                compare(kind, "feature", x.feature(f, what), m.feature(f, what));
                break;
            }
            case 8: {
                int f = feature();
                int s = below(3);
                int g = below(3);
                compare(kind, "feels", x.feels(f, s, g), m.feels(f, s, g));
                break;
            }
            case 9: {
                int k = key();
                int f = feature();
                compare(13, "stepOf", x.stepOf(k, f), m.stepOf(k, f));
                break;
            }
            case 10: {
                int k = key();
                int what = below(3);
                compare(14, "key(" + k + ", " + what + ")", x.key(k, what), m.key(k, what));
                break;
            }
            case 11: {
                int r = ring();
                int k = once(2) ? -1 : place(r);
                compare(kind, "ring(" + r + ", " + k + ")", x.ring(r, k), m.ring(r, k));
                break;
            }
            case 12: {
                int d = door();
                int what = below(2);
                compare(kind, "door", x.door(d, what), m.door(d, what));
                break;
            }
            case 13: {
                int k = below(m.home.round.size());
                compare(15, "round", x.round(k), m.round(k));
                break;
            }
            case 14:
            case 15:
                lay();
                break;
            case 16: {
                int k = key();
                boolean lent = once(2);
                compare(kind, "lend", n(x.lend(k, lent)), n(m.lend(k, lent)));
                break;
            }
            case 17: {
                int k = key();
                int r = ring();
                int place = place(r);
                compare(kind, "put", n(x.put(k, r, place)), n(m.put(k, r, place)));
                break;
            }
            case 18: {
                int k = key();
                if (once(2)) compare(kind, "off", n(x.off(k)), n(m.off(k)));
                break;
            }
            default: {
                int k = below(4);
                compare(19, "found(" + k + ")", x.found(k), m.found(k));
                break;
            }
        }
    }

    /** A tray with an order of a ring, that is sometimes wrong. */
    private void lay() {
        int r = ring();
        int t = below(4);
        if (r >= 0 && r < m.home.rings.size() && t >= 0 && t < 4) {
            List<Integer> order = new ArrayList<>(m.home.rings.get(r));
            java.util.Collections.shuffle(order, random);
            if (once(6) && !order.isEmpty()) order.set(0, random.nextInt(10));
            if (once(8)) order.add(random.nextInt(10));
            if (once(8) && !order.isEmpty()) order.remove(0);
            int sort = random.nextInt(4);
            compare(0, "tray", n(x.tray(t, sort, order.size())), n(m.tray(t, sort, order.size())));
            for (int i = 0; i < order.size(); i++) {
                compare(1, "write", n(x.write(t, i, order.get(i))), n(m.write(t, i, order.get(i))));
            }
        }
        compare(20, "lay(" + r + ", " + t + ")", n(x.lay(r, t)), n(m.lay(r, t)));
    }

    private void second(int kind) {
        switch (kind) {
            case 20:
            case 21: {
                int r = ring();
                compare(24, "take(" + r + ")", n(x.take(r)), n(m.take(r)));
                break;
            }
            case 22:
            case 23: {
                int p = below(m.row.size());
                int way = below(2);
                compare(22, "part(" + p + ", " + way + ")", x.part(p, way), m.part(p, way));
                break;
            }
            case 24:
            case 25: {
                int f = feature();
                int g = below(f >= 0 && f < m.home.features.size() ? m.home.features.get(f).steps : 2);
                compare(23, "feel(" + f + ", " + g + ")", n(x.feel(f, g)), n(m.feel(f, g)));
                parts();
                break;
            }
            case 26:
                compare(26, "goOn", n(x.goOn()), n(m.goOn()));
                parts();
                break;
            case 27:
                compare(27, "turn", n(x.turn()), n(m.turn()));
                parts();
                break;
            case 28: {
                int d = door();
                boolean opens = once(4);
                compare(kind, "tried(" + d + ", " + opens + ")", n(x.tried(d, opens)), n(m.tried(d, opens)));
                parts();
                break;
            }
            case 29: {
                int k = key();
                compare(kind, "here", n(x.here(k)), n(m.here(k)));
                break;
            }
            case 30: {
                int d = door();
                compare(kind, "opens", n(x.opens(d)), n(m.opens(d)));
                break;
            }
            default:
                acts(kind);
                break;
        }
    }

    private void parts() {
        if (m.held < 0) return;
        int p = random.nextInt(m.row.size());
        compare(22, "part(" + p + ", 0)", x.part(p, 0), m.part(p, 0));
        compare(22, "part(" + p + ", 1)", x.part(p, 1), m.part(p, 1));
    }

    /** Four acts are dear for the model. */
    private void acts(int kind) {
        int d = door();
        boolean worth = kind < 33;
        int k = once(60) ? (worth ? 4 : 4) : worth ? below(4) : 1 + below(3);
        if (k == 4 && !once(10)) k = 3;
        if (worth) compare(31, "worth(" + d + ", " + k + ")", n(x.worth(d, k)), n(m.worth(d, k)));
        else compare(32, "next(" + d + ", " + k + ")", x.next(d, k), m.next(d, k));
    }

    private void third(int kind) {
        int r = ring();
        int d = door();
        switch (kind) {
            case 35: {
                int p = place(r);
                int way = below(2);
                compare(kind, "searched", x.searched(r, d, p, way), m.searched(r, d, p, way));
                break;
            }
            case 36: {
                int p = place(r);
                int way = below(2);
                compare(kind, "from", n(x.from(r, p, way)), n(m.from(r, p, way)));
                break;
            }
            case 37:
                compare(kind, "anywhere", n(x.anywhere(r)), n(m.anywhere(r)));
                break;
            case 38: {
                boolean anywhere = once(2);
                if (tooDear(r)) break;
                compare(kind, "laid(" + r + ", " + anywhere + ")", x.laid(r, anywhere), m.laid(r, anywhere));
                found();
                break;
            }
            case 39:
                compare(kind, "inRow(" + d + ")", x.inRow(d), m.inRow(d));
                found();
                break;
            case 40:
                compare(kind, "walked(" + r + ")", x.walked(r), m.walked(r));
                break;
            case 41:
                if (tooDear(r)) break;
                compare(kind, "laidForRound(" + r + ")", x.laidForRound(r), m.laidForRound(r));
                found();
                break;
            case 42:
                compare(kind, "alike", x.alike(r), m.alike(r));
                break;
            case 43: {
                boolean turned = once(2);
                compare(kind, "apart(" + r + ", " + turned + ")", x.apart(r, turned), m.apart(r, turned));
                break;
            }
            case 44: {
                int sorts = once(3) ? below(12) : 2 + random.nextInt(3);
                compare(kind, "filed(" + r + ", " + sorts + ")", x.filed(r, sorts), m.filed(r, sorts));
                break;
            }
            case 45: {
                boolean turned = once(2);
                compare(kind, "known(" + r + ", " + turned + ")", x.known(r, turned), m.known(r, turned));
                break;
            }
            case 46: {
                int k = key();
                int lent = once(4) ? 0 : below(17);
                int t = place(r);
                compare(kind, "missing(" + k + ", " + d + ", " + lent + ", " + t + ")", n(x.missing(k, d, lent, t)),
                        n(m.missing(k, d, lent, t)));
                break;
            }
            case 47: {
                int k = key();
                int lent = once(4) ? 0 : below(17);
                int sure = below(17);
                compare(kind, "soon(" + k + ", " + d + ", " + lent + ", " + sure + ")", x.soon(k, d, lent, sure),
                        m.soon(k, d, lent, sure));
                break;
            }
            default: {
                int k = key();
                compare(48, "newly(" + k + ", " + r + ", " + d + ")", x.newly(k, r, d), m.newly(k, r, d));
                break;
            }
        }
    }

    private boolean tooDear(int r) {
        return r >= 0 && r < m.home.rings.size() && m.home.rings.get(r).size() == 6 && !once(10);
    }

    private void found() {
        for (int k = 0; k < 4; k++) compare(19, "found(" + k + ")", x.found(k), m.found(k));
    }

    private void last(int kind) {
        int r = ring();
        int d = door();
        int seed = below(once(10) ? 20000 : 10000);
        switch (kind) {
            case 50:
            case 51:
            case 52:
            case 53:
            case 54:
                compare(50, "play(" + r + ", " + d + ", " + seed + ")", x.play(r, d, seed), m.play(r, d, seed));
                for (int what = 0; what < 7; what++) {
                    compare(51, "played(" + what + ")", x.played(what), m.played(what));
                }
                break;
            case 55: {
                int many = below(32);
                if (once(9)) seed = 9999 - random.nextInt(32);
                compare(52, "tally(" + r + ", " + d + ", " + seed + ", " + many + ")", x.tally(r, d, seed, many),
                        m.tally(r, d, seed, many));
                break;
            }
            case 56:
            case 57:
                compare(53, "mark", x.mark(), m.mark());
                break;
            case 58:
                if (once(2)) compare(54, "back", x.back(), m.back());
                break;
            default: {
                int what = below(7);
                compare(51, "played(" + what + ")", x.played(what), m.played(what));
                break;
            }
        }
    }
}
