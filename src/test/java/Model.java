import java.math.BigInteger;
import java.util.ArrayList;
import java.util.Collections;
import java.util.HashSet;
import java.util.LinkedHashSet;
import java.util.List;
import java.util.Set;
import java.util.TreeSet;
import java.util.function.BooleanSupplier;
import java.util.function.LongSupplier;
import java.util.regex.Matcher;
import java.util.regex.Pattern;

/**
 * The document once more, as slowly and plainly as it can be told, with the whole Java library: what DarkRing
 * answers is compared with it. Nothing of DarkRing is used here.
 */
final class Model {
    static final class Refused extends RuntimeException {
        private static final long serialVersionUID = 1;
        final int why;

        Refused(int why) {
            this.why = why;
        }
    }

    static final class Faulty extends RuntimeException {
        private static final long serialVersionUID = 1;
        final int kind;
        final int place;

        Faulty(int kind, int place) {
            this.kind = kind;
            this.place = place;
        }
    }

    /** How a rule that is played ends ahead of its text's end. */
    static final class Over extends RuntimeException {
        private static final long serialVersionUID = 1;
    }

    static final class Feature {
        String name;
        int steps;
        boolean turned;
        int[][] feels;
    }

    static final class Door {
        int wanted;
        Set<Integer> by = new TreeSet<>();
    }

    static final class Home {
        List<Feature> features = new ArrayList<>();
        List<int[]> keys = new ArrayList<>();
        List<List<Integer>> rings = new ArrayList<>();
        List<Door> doors = new ArrayList<>();
        int[] seconds = {1, 4, 1, 9};
        int turned = 8;
        List<Integer> round = new ArrayList<>();
        Set<Integer> lent = new HashSet<>();

        Home copy() {
            Home c = new Home();
            c.features.addAll(features);
            c.keys.addAll(keys);
            for (List<Integer> r : rings) c.rings.add(new ArrayList<>(r));
            c.doors.addAll(doors);
            c.seconds = seconds.clone();
            c.turned = turned;
            c.round.addAll(round);
            c.lent.addAll(lent);
            return c;
        }
    }

    static final class Step {
        String word;
        String what = "";
        int feature = -1;
        char compare;
        int number;
        List<Step> inside = new ArrayList<>();
    }

    static final class Kept {
        Home home;
        int held;
        List<Integer> row;
        BigInteger[][] thought;
        List<Step> rule;
        int ruleSteps;
    }

    static final class Token {
        final char kind;
        final int place;
        final String text;

        Token(char kind, int place, String text) {
            this.kind = kind;
            this.place = place;
            this.text = text;
        }

        boolean is(String t) {
            return (kind == 'w' || kind == 's') && text.equals(t);
        }
    }

    static final BigInteger MILLION = BigInteger.valueOf(1000000);

    int status = 0;
    BigInteger top = BigInteger.ZERO;
    BigInteger bottom = BigInteger.ONE;
    long[][] trays = new long[4][];
    int[] sorts = new int[4];
    StringBuilder tape = new StringBuilder();
    int fault = -1;
    int faultPlace = -1;
    Home home = new Home();
    int held = -1;
    List<Integer> row = new ArrayList<>();
    BigInteger[][] thought;
    List<Step> rule = new ArrayList<>();
    int ruleSteps = 0;
    List<Kept> marks = new ArrayList<>();
    List<Integer> found = new ArrayList<>();
    int[] played = null;

    // ---- how calls answer

    private long answer(LongSupplier call) {
        try {
            long a = call.getAsLong();
            status = 0;
            return a;
        } catch (Refused r) {
            status = r.why;
            return -1;
        }
    }

    private boolean answerTruth(BooleanSupplier call) {
        try {
            boolean a = call.getAsBoolean();
            status = 0;
            return a;
        } catch (Refused r) {
            status = r.why;
            return false;
        }
    }

    private static void must(boolean so, int elseWhy) {
        if (!so) throw new Refused(elseWhy);
    }

    private void fraction(BigInteger a, BigInteger b) {
        BigInteger g = a.gcd(b);
        top = a.divide(g);
        bottom = b.divide(g);
    }

    private void fraction(long a, long b) {
        fraction(BigInteger.valueOf(a), BigInteger.valueOf(b));
    }

    private static boolean in(int i, int n) {
        return 0 <= i && i < n;
    }

    private void mustFeature(int f) {
        must(in(f, home.features.size()), 2);
    }

    private void mustKey(int k) {
        must(in(k, home.keys.size()), 2);
    }

    private void mustRing(int r) {
        must(in(r, home.rings.size()), 2);
    }

    private void mustDoor(int d) {
        must(in(d, home.doors.size()), 2);
    }

    // ---- TRAYS

    boolean tray(int t, int sort, int many) {
        return answerTruth(() -> {
            must(in(t, 4) && in(sort, 4), 1);
            must(many <= 60, 5);
            must(many >= 0, 6);
            trays[t] = new long[many];
            sorts[t] = sort;
            return true;
        });
    }

    boolean write(int t, int place, long v) {
        return answerTruth(() -> {
            must(in(t, 4), 1);
            must(trays[t] != null, 3);
            must(in(place, trays[t].length), 4);
            int bits = 8 << sorts[t];
            trays[t][place] = v << (64 - bits) >> (64 - bits);
            return true;
        });
    }

    long read(int t, int place) {
        return answer(() -> {
            must(in(t, 4), 1);
            must(trays[t] != null, 3);
            must(in(place, trays[t].length), 4);
            return trays[t][place];
        });
    }

    boolean pour(int t, int i, int to, int j, int many) {
        return answerTruth(() -> {
            must(in(t, 4) && in(to, 4), 1);
            must(trays[t] != null && trays[to] != null, 3);
            must(sorts[t] == sorts[to], 11);
            must(many >= 0, 6);
            must(i >= 0 && j >= 0 && (long) i + many <= trays[t].length && (long) j + many <= trays[to].length, 4);
            long[] were = trays[t].clone();
            for (int k = 0; k < many; k++) trays[to][j + k] = were[i + k];
            return true;
        });
    }

    // ---- texts

    int feed(int... five) {
        if (tape.length() + 20 > 900) return -1;
        for (int v : five) {
            for (int s = 24; s >= 0; s -= 8) tape.append((char) (v >> s & 255));
        }
        return tape.length();
    }

    int fault(int what) {
        return what == 0 ? fault : what == 1 ? faultPlace : -1;
    }

    private static final Pattern TOKEN = Pattern.compile("[a-z]+|[0-9]+|[;<>=]");

    private static List<Token> tokens(String text) {
        List<Token> all = new ArrayList<>();
        int i = 0;
        while (i < text.length()) {
            char c = text.charAt(i);
            if (c == '\n' || c == ' ') {
                i++;
                continue;
            }
            Matcher m = TOKEN.matcher(text);
            m.region(i, text.length());
            if (!m.lookingAt()) {
                all.add(new Token('?', i, ""));
                return all;
            }
            String t = m.group();
            char kind = Character.isDigit(c) ? 'n' : Character.isLetter(c) ? 'w' : 's';
            if (kind == 'n' && t.length() > 4) kind = '?';
            all.add(new Token(kind, i, t));
            if (kind == '?') return all;
            i = m.end();
        }
        all.add(new Token('e', text.length(), ""));
        return all;
    }

    private List<Token> line;
    private int now;

    private Token here() {
        return line.get(now);
    }

    private void failHere(int kind) {
        throw new Faulty(here().kind == '?' ? 1 : kind, here().place);
    }

    private void wantHere(boolean so, int kind) {
        if (!so) failHere(kind);
    }

    private void want(String word) {
        wantHere(here().is(word), 2);
        now++;
    }

    private int wantNumber(int least, int most) {
        wantHere(here().kind == 'n', 2);
        int v = Integer.parseInt(here().text);
        wantHere(least <= v && v <= most, 4);
        now++;
        return v;
    }

    private static final Set<String> NO_NAMES = Set.of("feature", "steps", "turned", "feels", "key", "ring", "door",
            "wanted", "by", "seconds", "feel", "try", "go", "drop", "round");

    private String nameHere() {
        Token t = here();
        wantHere(t.kind == 'w' && t.text.length() <= 8 && !NO_NAMES.contains(t.text), 2);
        return t.text;
    }

    private int oldName(List<String> names) {
        String name = nameHere();
        wantHere(names.contains(name), 3);
        return names.indexOf(name);
    }

    long house(int n) {
        return answer(() -> {
            must(0 <= n && n <= tape.length(), 5);
            String text = tape.substring(0, n);
            tape.setLength(0);
            try {
                home = readHome(text);
            } catch (Faulty f) {
                fault = f.kind;
                faultPlace = f.place;
                throw new Refused(10);
            }
            fault = 0;
            faultPlace = -1;
            held = -1;
            return home.keys.size();
        });
    }

    private Home readHome(String text) {
        Home h = new Home();
        List<String> features = new ArrayList<>();
        List<String> keys = new ArrayList<>();
        List<String> rings = new ArrayList<>();
        List<String> doors = new ArrayList<>();
        Set<String> all = new HashSet<>();
        Set<String> once = new HashSet<>();
        Set<Integer> onRing = new HashSet<>();
        line = tokens(text);
        now = 0;
        while (here().kind != 'e') {
            String word = here().kind == 'w' ? here().text : "";
            if (word.equals("feature")) {
                wantHere(features.size() < 3, 6);
                wantHere(keys.isEmpty(), 7);
                now++;
                newName(all, features);
                want("steps");
                Feature f = new Feature();
                f.name = features.get(features.size() - 1);
                f.steps = wantNumber(2, 4);
                if (here().is("turned")) {
                    f.turned = true;
                    now++;
                }
                f.feels = new int[f.steps][f.steps];
                for (int i = 0; i < f.steps; i++) f.feels[i][i] = 16;
                h.features.add(f);
            } else if (word.equals("feels")) {
                now++;
                int f = oldName(features);
                wantHere(once.add("feels " + f), 5);
                now++;
                wantHere(here().kind == 'n', 2);
                readFeels(h.features.get(f));
            } else if (word.equals("key")) {
                wantHere(keys.size() < 10, 6);
                now++;
                newName(all, keys);
                int[] steps = new int[features.size()];
                int i = 0;
                while (here().kind == 'n') {
                    wantHere(i < steps.length, 8);
                    steps[i] = wantNumber(0, h.features.get(i).steps - 1);
                    i++;
                }
                if (here().is(";")) wantHere(i == steps.length, 8);
                h.keys.add(steps);
            } else if (word.equals("ring")) {
                wantHere(rings.size() < 3, 6);
                now++;
                newName(all, rings);
                List<Integer> ring = new ArrayList<>();
                while (!here().is(";")) {
                    int k = oldName(keys);
                    wantHere(onRing.add(k), 5);
                    ring.add(k);
                    now++;
                }
                h.rings.add(ring);
            } else if (word.equals("door")) {
                wantHere(doors.size() < 5, 6);
                now++;
                newName(all, doors);
                want("wanted");
                Door d = new Door();
                d.wanted = wantNumber(0, 99);
                want("by");
                do {
                    int k = oldName(keys);
                    wantHere(d.by.add(k), 5);
                    now++;
                } while (!here().is(";"));
                h.doors.add(d);
            } else if (word.equals("seconds")) {
                wantHere(once.add(word), 5);
                now++;
                String[] words = {"feel", "try", "go", "drop"};
                for (int i = 0; i < 4; i++) {
                    want(words[i]);
                    h.seconds[i] = wantNumber(1, 99);
                }
            } else if (word.equals("turned")) {
                wantHere(once.add(word), 5);
                now++;
                h.turned = wantNumber(0, 16);
            } else if (word.equals("round")) {
                wantHere(once.add(word), 5);
                now++;
                do {
                    int d = oldName(doors);
                    wantHere(h.round.size() < 12, 6);
                    h.round.add(d);
                    now++;
                } while (!here().is(";"));
            } else {
                failHere(2);
            }
            want(";");
        }
        return h;
    }

    private void newName(Set<String> all, List<String> names) {
        String name = nameHere();
        wantHere(all.add(name), 3);
        names.add(name);
        now++;
    }

    private void readFeels(Feature f) {
        int n = 0;
        while (here().kind == 'n') {
            int v = Integer.parseInt(here().text);
            wantHere(v <= 16, 4);
            wantHere(n < f.steps * f.steps, 8);
            f.feels[n / f.steps][n % f.steps] = v;
            n++;
            if (n % f.steps == 0) {
                int sum = 0;
                for (int g : f.feels[n / f.steps - 1]) sum += g;
                wantHere(sum == 16, 9);
            }
            now++;
        }
        if (here().is(";")) wantHere(n == f.steps * f.steps, 8);
    }

    long rule(int n) {
        return answer(() -> {
            must(0 <= n && n <= tape.length() && n <= 300, 5);
            String text = tape.substring(0, n);
            tape.setLength(0);
            List<Step> read;
            int[] count = {0};
            try {
                line = tokens(text);
                now = 0;
                read = readSteps(0, count);
            } catch (Faulty f) {
                fault = f.kind;
                faultPlace = f.place;
                throw new Refused(10);
            }
            fault = 0;
            faultPlace = -1;
            rule = read;
            ruleSteps = count[0];
            return ruleSteps;
        });
    }

    private List<Step> readSteps(int depth, int[] count) {
        List<Step> steps = new ArrayList<>();
        while (true) {
            if (here().kind == 'e' && depth == 0) return steps;
            if (here().is("end") && depth > 0) return steps;
            Step s = new Step();
            s.word = here().kind == 'w' ? here().text : "";
            wantHere(List.of("feel", "try", "go", "turn", "drop", "stop", "when", "loop").contains(s.word), 2);
            boolean block = s.word.equals("when") || s.word.equals("loop");
            wantHere(count[0] < 30, 6);
            wantHere(!block || depth < 3, 7);
            count[0]++;
            now++;
            if (s.word.equals("feel")) {
                s.feature = featureName();
            } else if (s.word.equals("loop")) {
                s.number = wantNumber(1, 9);
            } else if (s.word.equals("when")) {
                s.what = here().text;
                wantHere(here().is("felt") || here().is("sure") || here().is("tried"), 2);
                now++;
                if (s.what.equals("felt")) {
                    s.feature = featureName();
                    wantHere(here().is("<") || here().is(">") || here().is("="), 2);
                    s.compare = here().text.charAt(0);
                    now++;
                    s.number = wantNumber(0, 3);
                } else if (s.what.equals("sure")) {
                    s.number = wantNumber(0, 16);
                }
            }
            want(";");
            if (block) {
                s.inside = readSteps(depth + 1, count);
                want("end");
                want(";");
            }
            steps.add(s);
        }
    }

    private int featureName() {
        List<String> names = new ArrayList<>();
        for (Feature f : home.features) names.add(f.name);
        int f = oldName(names);
        now++;
        return f;
    }

    // ---- what is there

    long many(int what) {
        return answer(() -> {
            must(in(what, 11), 5);
            int[] all = {home.features.size(), home.keys.size(), home.rings.size(), home.doors.size(),
                home.round.size(), home.seconds[0], home.seconds[1], home.seconds[2], home.seconds[3], home.turned,
                held};
            return all[what];
        });
    }

    long feature(int f, int what) {
        return answer(() -> {
            mustFeature(f);
            must(in(what, 2), 5);
            return what == 0 ? home.features.get(f).steps : home.features.get(f).turned ? 1 : 0;
        });
    }

    long feels(int f, int step, int felt) {
        return answer(() -> {
            mustFeature(f);
            must(in(step, home.features.get(f).steps) && in(felt, home.features.get(f).steps), 2);
            return home.features.get(f).feels[step][felt];
        });
    }

    long stepOf(int k, int f) {
        return answer(() -> {
            mustKey(k);
            mustFeature(f);
            return home.keys.get(k)[f];
        });
    }

    private int ringOf(int k) {
        for (int r = 0; r < home.rings.size(); r++) {
            if (home.rings.get(r).contains(k)) return r;
        }
        return -1;
    }

    private List<Integer> there(int r) {
        List<Integer> all = new ArrayList<>();
        if (r >= 0) {
            for (int k : home.rings.get(r)) {
                if (!home.lent.contains(k)) all.add(k);
            }
        }
        return all;
    }

    long key(int k, int what) {
        return answer(() -> {
            mustKey(k);
            must(in(what, 3), 5);
            if (what == 2) return home.lent.contains(k) ? 1 : 0;
            int r = ringOf(k);
            must(r >= 0, 8);
            return what == 0 ? r : home.rings.get(r).indexOf(k);
        });
    }

    long ring(int r, int k) {
        return answer(() -> {
            mustRing(r);
            if (k == -1) return there(r).size();
            must(in(k, there(r).size()), 8);
            return there(r).get(k);
        });
    }

    long door(int d, int what) {
        return answer(() -> {
            mustDoor(d);
            must(in(what, 2), 5);
            int set = 0;
            for (int k : home.doors.get(d).by) set += 1 << k;
            return what == 0 ? home.doors.get(d).wanted : set;
        });
    }

    long round(int k) {
        return answer(() -> {
            must(in(k, home.round.size()), 8);
            return home.round.get(k);
        });
    }

    // ---- hands

    boolean lay(int r, int t) {
        return answerTruth(() -> {
            must(in(t, 4), 1);
            mustRing(r);
            must(trays[t] != null, 3);
            List<Integer> ring = home.rings.get(r);
            must(trays[t].length >= ring.size(), 4);
            List<Integer> order = new ArrayList<>();
            for (long v : trays[t]) {
                must(v >= 0 && v < 10 && ring.contains((int) v) && !order.contains((int) v), 5);
                order.add((int) v);
            }
            home.rings.set(r, order);
            if (held == r) held = -1;
            return true;
        });
    }

    boolean lend(int k, boolean lent) {
        return answerTruth(() -> {
            mustKey(k);
            if (lent) home.lent.add(k);
            else home.lent.remove(k);
            if (held == ringOf(k)) held = -1;
            return true;
        });
    }

    boolean put(int k, int r, int place) {
        return answerTruth(() -> {
            mustKey(k);
            mustRing(r);
            must(0 <= place && place <= home.rings.get(r).size(), 5);
            must(ringOf(k) < 0, 9);
            home.rings.get(r).add(place, k);
            if (held == r) held = -1;
            return true;
        });
    }

    boolean off(int k) {
        return answerTruth(() -> {
            mustKey(k);
            int r = ringOf(k);
            must(r >= 0, 8);
            home.rings.get(r).remove(Integer.valueOf(k));
            if (held == r) held = -1;
            return true;
        });
    }

    // ---- THOUGHT: [place][way]

    private static BigInteger[][] weights(int n) {
        BigInteger[][] w = new BigInteger[n][2];
        for (BigInteger[] p : w) {
            p[0] = BigInteger.ZERO;
            p[1] = BigInteger.ZERO;
        }
        return w;
    }

    private static BigInteger sum(BigInteger[][] w) {
        BigInteger all = BigInteger.ZERO;
        for (BigInteger[] p : w) all = all.add(p[0]).add(p[1]);
        return all;
    }

    /** Null if all are 0. */
    private static BigInteger[][] shared(BigInteger[][] w) {
        BigInteger all = sum(w);
        if (all.signum() == 0) return null;
        BigInteger[][] parts = weights(w.length);
        int best = 0;
        int bestWay = 0;
        for (int p = 0; p < w.length; p++) {
            for (int way = 0; way < 2; way++) {
                parts[p][way] = w[p][way].multiply(MILLION).divide(all);
                if (w[p][way].compareTo(w[best][bestWay]) > 0) {
                    best = p;
                    bestWay = way;
                }
            }
        }
        parts[best][bestWay] = parts[best][bestWay].add(MILLION.subtract(sum(parts)));
        return parts;
    }

    private BigInteger[][] atFirst(int n) {
        BigInteger[][] w = weights(n);
        for (BigInteger[] p : w) {
            p[0] = BigInteger.valueOf(16 - home.turned);
            p[1] = BigInteger.valueOf(home.turned);
        }
        return shared(w);
    }

    private int stepAs(int k, int f, int way) {
        int s = home.keys.get(k)[f];
        Feature feature = home.features.get(f);
        return way == 1 && feature.turned ? feature.steps - 1 - s : s;
    }

    private BigInteger[][] byFelt(List<Integer> ring, BigInteger[][] w, int f, int felt) {
        BigInteger[][] to = weights(w.length);
        for (int p = 0; p < w.length; p++) {
            for (int way = 0; way < 2; way++) {
                int as = home.features.get(f).feels[stepAs(ring.get(p), f, way)][felt];
                to[p][way] = w[p][way].multiply(BigInteger.valueOf(as));
            }
        }
        return to;
    }

    private BigInteger[][] byTry(List<Integer> ring, BigInteger[][] w, int d, boolean opens) {
        BigInteger[][] to = weights(w.length);
        for (int p = 0; p < w.length; p++) {
            if (home.doors.get(d).by.contains(ring.get(p)) == opens) to[p] = w[p].clone();
        }
        return to;
    }

    private static BigInteger[][] byGo(BigInteger[][] w) {
        int n = w.length;
        BigInteger[][] to = weights(n);
        for (int p = 0; p < n; p++) {
            to[(p + 1) % n][0] = w[p][0];
            to[(p + n - 1) % n][1] = w[p][1];
        }
        return to;
    }

    private static BigInteger[][] byTurn(BigInteger[][] w) {
        BigInteger[][] to = weights(w.length);
        for (int p = 0; p < w.length; p++) {
            to[p][0] = w[p][1];
            to[p][1] = w[p][0];
        }
        return to;
    }

    private BigInteger opening(List<Integer> ring, BigInteger[][] w, int d) {
        return sum(byTry(ring, w, d, true));
    }

    boolean take(int r) {
        return answerTruth(() -> {
            mustRing(r);
            must(!there(r).isEmpty(), 8);
            held = r;
            row = there(r);
            thought = atFirst(row.size());
            return true;
        });
    }

    long part(int place, int way) {
        return answer(() -> {
            must(held >= 0, 8);
            must(in(place, row.size()) && in(way, 2), 5);
            return thought[place][way].longValueExact();
        });
    }

    boolean feel(int f, int felt) {
        return answerTruth(() -> {
            mustFeature(f);
            must(in(felt, home.features.get(f).steps), 2);
            must(held >= 0, 8);
            BigInteger[][] to = shared(byFelt(row, thought, f, felt));
            must(to != null, 9);
            thought = to;
            return true;
        });
    }

    boolean goOn() {
        return answerTruth(() -> {
            must(held >= 0, 8);
            thought = byGo(thought);
            return true;
        });
    }

    boolean turn() {
        return answerTruth(() -> {
            must(held >= 0, 8);
            thought = byTurn(thought);
            return true;
        });
    }

    boolean tried(int d, boolean opens) {
        return answerTruth(() -> {
            mustDoor(d);
            must(held >= 0, 8);
            BigInteger[][] to = shared(byTry(row, thought, d, opens));
            must(to != null, 9);
            thought = to;
            return true;
        });
    }

    boolean here(int k) {
        return answerTruth(() -> {
            mustKey(k);
            must(held >= 0, 8);
            int p = row.indexOf(k);
            fraction(p < 0 ? BigInteger.ZERO : thought[p][0].add(thought[p][1]), MILLION);
            return true;
        });
    }

    boolean opens(int d) {
        return answerTruth(() -> {
            mustDoor(d);
            must(held >= 0, 8);
            fraction(opening(row, thought, d), MILLION);
            return true;
        });
    }

    /** Times 16 to the k. */
    private BigInteger worthOf(BigInteger[][] w, int d, int k) {
        BigInteger best = BigInteger.ZERO;
        if (k == 0 || sum(w).signum() == 0) return best;
        for (int act = 0; act < 2 + home.features.size(); act++) best = best.max(worthBy(act, w, d, k));
        return best;
    }

    private BigInteger worthBy(int act, BigInteger[][] w, int d, int k) {
        BigInteger sixteen = BigInteger.valueOf(16);
        if (act == 0) {
            BigInteger later = worthOf(byTry(row, w, d, false), d, k - 1).multiply(sixteen);
            return opening(row, w, d).multiply(sixteen.pow(k)).add(later);
        }
        if (act == 1) return worthOf(byGo(w), d, k - 1).multiply(sixteen);
        BigInteger all = BigInteger.ZERO;
        for (int felt = 0; felt < home.features.get(act - 2).steps; felt++) {
            all = all.add(worthOf(byFelt(row, w, act - 2, felt), d, k - 1));
        }
        return all;
    }

    boolean worth(int d, int k) {
        return answerTruth(() -> {
            mustDoor(d);
            must(in(k, 5), 5);
            must(held >= 0, 8);
            fraction(worthOf(thought, d, k), MILLION.multiply(BigInteger.valueOf(16).pow(k)));
            return true;
        });
    }

    long next(int d, int k) {
        return answer(() -> {
            mustDoor(d);
            must(in(k - 1, 4), 5);
            must(held >= 0, 8);
            BigInteger best = worthOf(thought, d, k);
            for (int act = 0;; act++) {
                if (worthBy(act, thought, d, k).equals(best)) return act;
            }
        });
    }

    // ---- SEARCHED

    private boolean some(List<Integer> ring, int d) {
        return !Collections.disjoint(ring, home.doors.get(d).by);
    }

    private int tryAll(int n) {
        return n * home.seconds[1] + (n - 1) * home.seconds[2];
    }

    private int seconds(List<Integer> ring, int d, int place, int way) {
        int n = ring.size();
        for (int i = 0; i < n; i++) {
            int p = way == 0 ? (place + i) % n : (place - i + n) % n;
            if (home.doors.get(d).by.contains(ring.get(p))) return tryAll(i + 1);
        }
        return tryAll(n);
    }

    private int wanted(List<Integer> ring) {
        int all = 0;
        for (int d = 0; d < home.doors.size(); d++) {
            if (some(ring, d)) all += home.doors.get(d).wanted;
        }
        return all;
    }

    /** The MEAN FROM times how often all these DOORS are WANTED. */
    private int fromTimes(List<Integer> ring, int place, int way) {
        int all = 0;
        for (int d = 0; d < home.doors.size(); d++) {
            if (some(ring, d)) all += home.doors.get(d).wanted * seconds(ring, d, place, way);
        }
        return all;
    }

    /** The MEAN ANYWHERE of what is told for each place and way, times 16 and the places. */
    private interface ByPlace {
        int of(int place, int way);
    }

    private int anywhereTimes(int n, ByPlace what) {
        int all = 0;
        for (int p = 0; p < n; p++) {
            all += (16 - home.turned) * what.of(p, 0) + home.turned * what.of(p, 1);
        }
        return all;
    }

    long searched(int r, int d, int place, int way) {
        return answer(() -> {
            mustRing(r);
            mustDoor(d);
            must(in(place, there(r).size()) && in(way, 2), 5);
            must(some(there(r), d), 8);
            return seconds(there(r), d, place, way);
        });
    }

    boolean from(int r, int place, int way) {
        return answerTruth(() -> {
            mustRing(r);
            must(in(place, there(r).size()) && in(way, 2), 5);
            must(wanted(there(r)) > 0, 8);
            fraction(fromTimes(there(r), place, way), wanted(there(r)));
            return true;
        });
    }

    boolean anywhere(int r) {
        return answerTruth(() -> {
            mustRing(r);
            List<Integer> ring = there(r);
            must(wanted(ring) > 0, 8);
            fraction(anywhereTimes(ring.size(), (p, way) -> fromTimes(ring, p, way)), 16 * ring.size() * wanted(ring));
            return true;
        });
    }

    private static void orders(Set<Integer> left, List<Integer> done, List<List<Integer>> all) {
        if (left.isEmpty()) all.add(new ArrayList<>(done));
        for (int k : left) {
            Set<Integer> rest = new TreeSet<>(left);
            rest.remove(k);
            done.add(k);
            orders(rest, done, all);
            done.remove(done.size() - 1);
        }
    }

    private static List<List<Integer>> orders(List<Integer> of) {
        List<List<Integer>> all = new ArrayList<>();
        orders(new TreeSet<>(of), new ArrayList<>(), all);
        return all;
    }

    long laid(int r, boolean anywhere) {
        return answer(() -> {
            mustRing(r);
            must(there(r).size() <= 6, 7);
            int wanted = wanted(there(r));
            must(wanted > 0, 8);
            int n = there(r).size();
            int least = Integer.MAX_VALUE;
            for (List<Integer> o : orders(there(r))) {
                int m = anywhere ? anywhereTimes(n, (p, way) -> fromTimes(o, p, way)) : fromTimes(o, 0, 0);
                if (m < least) {
                    least = m;
                    found = o;
                }
            }
            fraction(least, anywhere ? wanted * 16 * n : wanted);
            return found.get(0);
        });
    }

    long inRow(int d) {
        return answer(() -> {
            mustDoor(d);
            List<Integer> rings = new ArrayList<>();
            boolean some = false;
            for (int r = 0; r < home.rings.size(); r++) {
                if (!there(r).isEmpty()) rings.add(r);
                if (some(there(r), d)) some = true;
            }
            must(some, 8);
            long bestTop = -1;
            long bestBottom = 1;
            for (List<Integer> o : orders(rings)) {
                long a = 0;
                long b = 1;
                for (int i = 0; i < o.size(); i++) {
                    List<Integer> ring = there(o.get(i));
                    if (i > 0) a += home.seconds[3];
                    if (some(ring, d)) {
                        b = 16L * ring.size();
                        a = a * b + anywhereTimes(ring.size(), (p, way) -> seconds(ring, d, p, way));
                        break;
                    }
                    a += tryAll(ring.size());
                }
                if (bestTop < 0 || a * bestBottom < bestTop * b) {
                    bestTop = a;
                    bestBottom = b;
                    found = o;
                }
            }
            fraction(bestTop, bestBottom);
            return rings.size();
        });
    }

    private int walk(List<Integer> ring) {
        int n = ring.size();
        int at = 0;
        int all = 0;
        must(!home.round.isEmpty(), 8);
        for (int d : home.round) {
            must(some(ring, d), 8);
            int bestFar = n;
            int bestOn = 0;
            for (int q = n - 1; q >= 0; q--) {
                if (!home.doors.get(d).by.contains(ring.get(q))) continue;
                int on = (q - at + n) % n;
                int back = (at - q + n) % n;
                int far = Math.min(on, back);
                if (far < bestFar || far == bestFar && on < bestOn) {
                    bestFar = far;
                    bestOn = on;
                }
            }
            at = (at + bestOn) % n;
            all += bestFar * home.seconds[2] + home.seconds[1];
        }
        return all;
    }

    long walked(int r) {
        return answer(() -> {
            mustRing(r);
            return walk(there(r));
        });
    }

    long laidForRound(int r) {
        return answer(() -> {
            mustRing(r);
            must(there(r).size() <= 6, 7);
            walk(there(r));
            int least = Integer.MAX_VALUE;
            for (List<Integer> o : orders(there(r))) {
                if (walk(o) < least) {
                    least = walk(o);
                    found = o;
                }
            }
            return least;
        });
    }

    long found(int k) {
        return answer(() -> {
            must(in(k, found.size()), 8);
            return found.get(k);
        });
    }

    // ---- to tell apart

    private List<Integer> look(int k, int set, boolean turned) {
        List<Integer> steps = new ArrayList<>();
        for (int f = 0; f < home.features.size(); f++) {
            if ((set >> f & 1) == 1) steps.add(stepAs(k, f, turned ? 1 : 0));
        }
        return steps;
    }

    long alike(int r) {
        return answer(() -> {
            mustRing(r);
            List<Integer> ring = there(r);
            int n = 0;
            for (int i = 0; i < ring.size(); i++) {
                for (int j = i + 1; j < ring.size(); j++) {
                    if (look(ring.get(i), 7, false).equals(look(ring.get(j), 7, false))) n++;
                }
            }
            return n;
        });
    }

    private boolean tells(List<Integer> ring, int set, boolean turned) {
        for (int a : ring) {
            for (int b : ring) {
                if (a == b) continue;
                if (look(a, set, false).equals(look(b, set, false))) return false;
                if (turned && look(a, set, true).equals(look(b, set, false))) return false;
                if (turned && look(a, set, false).equals(look(b, set, true))) return false;
            }
        }
        return true;
    }

    long apart(int r, boolean turned) {
        return answer(() -> {
            mustRing(r);
            for (int size = 0; size <= home.features.size(); size++) {
                for (int set = 0; set < 1 << home.features.size(); set++) {
                    if (Integer.bitCount(set) == size && tells(there(r), set, turned)) return set;
                }
            }
            throw new Refused(8);
        });
    }

    long filed(int r, int sorts) {
        return answer(() -> {
            mustRing(r);
            must(2 <= sorts && sorts <= 9, 5);
            List<List<Integer>> looks = new ArrayList<>();
            for (int k : there(r)) looks.add(look(k, 7, false));
            int n = 0;
            for (List<Integer> one : new LinkedHashSet<>(looks)) {
                int alike = Collections.frequency(looks, one);
                must(alike <= sorts, 9);
                n += alike - 1;
            }
            return n;
        });
    }

    long known(int r, boolean turned) {
        return answer(() -> {
            mustRing(r);
            List<Integer> ring = there(r);
            int n = ring.size();
            for (int k = 1; k <= n; k++) {
                List<List<List<Integer>>> told = new ArrayList<>();
                List<List<List<Integer>>> other = new ArrayList<>();
                for (int p = 0; p < n; p++) {
                    List<List<Integer>> one = new ArrayList<>();
                    List<List<Integer>> two = new ArrayList<>();
                    for (int i = 0; i < k; i++) {
                        one.add(look(ring.get((p + i) % n), 7, false));
                        two.add(look(ring.get((p - i + n) % n), 7, true));
                    }
                    told.add(one);
                    other.add(two);
                }
                boolean ok = new HashSet<>(told).size() == n;
                if (turned && !Collections.disjoint(told, other)) ok = false;
                if (ok) return k;
            }
            throw new Refused(8);
        });
    }

    private boolean only(int k, int d) {
        Set<Integer> by = new HashSet<>(home.doors.get(d).by);
        by.retainAll(there(ringOf(k)));
        return by.equals(Set.of(k));
    }

    boolean missing(int k, int d, int lent, int t) {
        return answerTruth(() -> {
            mustKey(k);
            mustDoor(d);
            must(in(lent, 17) && t >= 0, 5);
            must(ringOf(k) >= 0, 9);
            int n = there(ringOf(k)).size();
            must(t <= n, 5);
            must(only(k, d), 9);
            must(lent > 0 || t < n, 9);
            // lent/16 against (16 - lent)/16 times (n - t)/n
            fraction((long) lent * n, (long) lent * n + (16 - lent) * (n - t));
            return true;
        });
    }

    long soon(int k, int d, int lent, int sure) {
        return answer(() -> {
            mustKey(k);
            mustDoor(d);
            must(in(lent, 17) && in(sure - 1, 16), 5);
            must(only(k, d), 9);
            int n = there(ringOf(k)).size();
            for (int t = 0; t <= n; t++) {
                double isLent = lent / 16.0;
                double isNot = (16 - lent) / 16.0 * (n - t) / n;
                if (isLent + isNot > 0 && isLent / (isLent + isNot) >= sure / 16.0 - 1e-12) return t;
            }
            throw new Refused(8);
        });
    }

    long newly(int k, int r, int d) {
        return answer(() -> {
            mustKey(k);
            mustRing(r);
            mustDoor(d);
            must(ringOf(k) < 0 && !home.lent.contains(k), 9);
            int best = -1;
            int least = Integer.MAX_VALUE;
            for (int place = 0; place <= home.rings.get(r).size(); place++) {
                List<Integer> all = new ArrayList<>(home.rings.get(r));
                all.add(place, k);
                all.removeAll(home.lent);
                must(some(all, d), 8);
                int m = anywhereTimes(all.size(), (p, way) -> seconds(all, d, p, way));
                if (m < least) {
                    least = m;
                    best = place;
                }
            }
            fraction(least, 16L * (there(r).size() + 1));
            return best;
        });
    }

    // ---- RULES

    private int s;
    private int gameDoor;
    private List<Integer> gameRow;
    private BigInteger[][] gameThought;
    private int[] game;
    private boolean gameOpen;
    private int[] felt;
    private boolean wasTried;

    private int draw(int n) {
        s = (int) (((long) s * 2749 + 15013) % 65536);
        return s / 8 % n;
    }

    private void fall() {
        game[4] = draw(gameRow.size());
        game[5] = draw(16) < home.turned ? 1 : 0;
        gameThought = atFirst(gameRow.size());
        forget();
    }

    private void forget() {
        felt = new int[] {-1, -1, -1};
        wasTried = false;
    }

    private void think(BigInteger[][] weights) {
        BigInteger[][] to = shared(weights);
        if (to != null) gameThought = to;
    }

    private boolean playOne(int r, int d, int seed) {
        s = seed;
        gameDoor = d;
        gameRow = there(r);
        game = new int[7];
        gameOpen = false;
        fall();
        try {
            playSteps(rule);
        } catch (Over over) {
            return gameOpen;
        }
        return false;
    }

    private void playSteps(List<Step> steps) {
        for (Step step : steps) {
            if (game[1] == 200) {
                game[6] = 1;
                throw new Over();
            }
            game[1]++;
            playStep(step);
        }
    }

    private void playStep(Step step) {
        int key = gameRow.get(game[4]);
        int n = gameRow.size();
        switch (step.word) {
            case "feel":
                if (step.feature >= home.features.size()) break;
                game[0] += home.seconds[0];
                game[2]++;
                int[] as = home.features.get(step.feature).feels[stepAs(key, step.feature, game[5])];
                int d = draw(16);
                int g = 0;
                for (int upTo = as[0]; upTo <= d; upTo += as[g]) g++;
                felt[step.feature] = g;
                think(byFelt(gameRow, gameThought, step.feature, g));
                break;
            case "try":
                game[0] += home.seconds[1];
                game[3]++;
                wasTried = true;
                if (home.doors.get(gameDoor).by.contains(key)) {
                    gameOpen = true;
                    throw new Over();
                }
                think(byTry(gameRow, gameThought, gameDoor, false));
                break;
            case "go":
                game[0] += home.seconds[2];
                game[4] = (game[4] + (game[5] == 0 ? 1 : n - 1)) % n;
                gameThought = byGo(gameThought);
                forget();
                break;
            case "turn":
                game[5] = 1 - game[5];
                gameThought = byTurn(gameThought);
                forget();
                break;
            case "drop":
                game[0] += home.seconds[3];
                fall();
                break;
            case "stop":
                throw new Over();
            case "loop":
                for (int i = 0; i < step.number; i++) playSteps(step.inside);
                break;
            default:
                if (isSo(step)) playSteps(step.inside);
                break;
        }
    }

    private boolean isSo(Step step) {
        if (step.what.equals("tried")) return wasTried;
        if (step.what.equals("sure")) {
            BigInteger sixteenths = opening(gameRow, gameThought, gameDoor).multiply(BigInteger.valueOf(16));
            return sixteenths.compareTo(MILLION.multiply(BigInteger.valueOf(step.number))) >= 0;
        }
        if (step.feature >= home.features.size() || felt[step.feature] < 0) return false;
        int c = Integer.compare(felt[step.feature], step.number);
        return step.compare == '<' ? c < 0 : step.compare == '>' ? c > 0 : c == 0;
    }

    long play(int r, int d, int seed) {
        return answer(() -> {
            mustRing(r);
            mustDoor(d);
            must(in(seed, 10000), 5);
            must(!there(r).isEmpty(), 8);
            boolean open = playOne(r, d, seed);
            played = game;
            return open ? 1 : 0;
        });
    }

    long played(int what) {
        return answer(() -> {
            must(in(what, 7), 5);
            must(played != null, 8);
            return played[what];
        });
    }

    long tally(int r, int d, int seed, int many) {
        return answer(() -> {
            mustRing(r);
            mustDoor(d);
            must(in(seed, 10000) && in(many - 1, 30) && seed + many - 1 <= 9999, 5);
            must(!there(r).isEmpty(), 8);
            int open = 0;
            int all = 0;
            for (int i = 0; i < many; i++) {
                if (playOne(r, d, seed + i)) open++;
                all += game[0];
            }
            fraction(all, many);
            return open;
        });
    }

    // ---- MARKS

    long mark() {
        return answer(() -> {
            must(marks.size() < 3, 7);
            Kept kept = new Kept();
            kept.home = home.copy();
            kept.held = held;
            kept.row = row;
            kept.thought = thought;
            kept.rule = rule;
            kept.ruleSteps = ruleSteps;
            marks.add(kept);
            return marks.size();
        });
    }

    long back() {
        return answer(() -> {
            must(!marks.isEmpty(), 8);
            Kept kept = marks.remove(marks.size() - 1);
            home = kept.home;
            held = kept.held;
            row = kept.row;
            thought = kept.thought;
            rule = kept.rule;
            ruleSteps = kept.ruleSteps;
            return marks.size();
        });
    }
}
