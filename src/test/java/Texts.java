import java.util.ArrayList;
import java.util.Collections;
import java.util.List;
import java.util.Random;

/** Makes texts of houses and rules by a seeded random source, right ones and such that are wrong somewhere. */
final class Texts {
    private static final String[] NAMES = {"a", "b", "c", "d", "e", "f", "g", "h", "i", "j", "stop", "felt", "loop",
        "end", "when", "sure", "tried", "abcdefgh", "zzzzzzzz", "zzzzzzz", "q", "r", "s", "t", "u", "v", "w", "x",
        "y", "z"};
    private static final String[] ODD = {"feature", "steps", "turned", "feels", "key", "ring", "door", "wanted", "by",
        "seconds", "feel", "try", "go", "drop", "round", ";", "<", ">", "=", "0", "1", "3", "4", "9", "10", "16", "17",
        "99", "100", "9999", "10000", "0007", "abcdefghi", "when", "loop", "end", "stop", "sure", "tried", "felt",
        "turn", "A", "a", "b", "nobody", "\t", "-"};

    private final Random random;

    Texts(Random random) {
        this.random = random;
    }

    private boolean once(int in) {
        return random.nextInt(in) == 0;
    }

    /** Blanks where they must stand, and here and there where they may. */
    private String joined(List<String> tokens) {
        StringBuilder text = new StringBuilder();
        char last = ' ';
        for (String t : tokens) {
            boolean both = Character.isLetter(last) && Character.isLetter(t.charAt(0))
                    || Character.isDigit(last) && Character.isDigit(t.charAt(0));
            if (both || once(5)) text.append(once(8) ? "\n" : once(10) ? "  " : " ");
            text.append(t);
            last = t.charAt(t.length() - 1);
        }
        if (once(6)) text.append(" ");
        return text.toString();
    }

    private void spoil(List<String> tokens) {
        int many = 1 + random.nextInt(2);
        for (int i = 0; i < many; i++) {
            int at = random.nextInt(tokens.size() + 1);
            String odd = ODD[random.nextInt(ODD.length)];
            int how = random.nextInt(4);
            if (how == 0 || at == tokens.size()) tokens.add(at, odd);
            else if (how == 1) tokens.remove(at);
            else if (how == 2) tokens.set(at, odd);
            else tokens.set(at, tokens.get(random.nextInt(tokens.size())));
        }
    }

    String house(boolean spoilt) {
        List<String> names = new ArrayList<>(List.of(NAMES));
        Collections.shuffle(names, random);
        List<String> t = new ArrayList<>();
        int features = random.nextInt(4);
        int[] steps = new int[features];
        List<String> late = new ArrayList<>();
        for (int f = 0; f < features; f++) {
            steps[f] = 2 + random.nextInt(3);
            Collections.addAll(t, "feature", names.get(f), "steps", "" + steps[f]);
            if (once(2)) t.add("turned");
            t.add(";");
            if (!once(3)) feels(names.get(f), steps[f], once(2) ? t : late);
        }
        int keys = once(8) ? 0 : once(4) ? 10 : 1 + random.nextInt(7);
        List<String> keyNames = names.subList(3, 3 + keys);
        for (int k = 0; k < keys; k++) {
            t.add("key");
            t.add(keyNames.get(k));
            for (int f = 0; f < features; f++) t.add("" + random.nextInt(steps[f]));
            t.add(";");
        }
        t.addAll(late);
        rings(t, keyNames, names.subList(14, 17));
        int doors = keys == 0 ? 0 : random.nextInt(6);
        for (int d = 0; d < doors; d++) {
            Collections.addAll(t, "door", names.get(18 + d), "wanted", "" + (once(3) ? 0 : random.nextInt(100)), "by");
            List<String> by = new ArrayList<>(keyNames);
            Collections.shuffle(by, random);
            int many = once(3) ? 1 + random.nextInt(keys) : 1 + random.nextInt(Math.min(2, keys));
            t.addAll(by.subList(0, many));
            t.add(";");
        }
        rest(t, doors, names.subList(18, 18 + doors));
        if (spoilt) spoil(t);
        return joined(t);
    }

    private void feels(String name, int steps, List<String> t) {
        Collections.addAll(t, "feels", name);
        for (int s = 0; s < steps; s++) {
            int[] row = new int[steps];
            int kinds = once(3) ? 1 : steps;
            for (int i = 0; i < 16; i++) row[kinds == 1 ? s : once(2) ? s : random.nextInt(steps)]++;
            for (int v : row) t.add("" + v);
        }
        t.add(";");
    }

    private void rings(List<String> t, List<String> keyNames, List<String> ringNames) {
        List<String> left = new ArrayList<>(keyNames);
        Collections.shuffle(left, random);
        int rings = random.nextInt(4);
        for (int r = 0; r < rings; r++) {
            Collections.addAll(t, "ring", ringNames.get(r));
            int many = once(3) ? left.size() : random.nextInt(left.size() + 1);
            for (int i = 0; i < many; i++) t.add(left.remove(0));
            t.add(";");
        }
    }

    private void rest(List<String> t, int doors, List<String> doorNames) {
        if (once(2)) {
            String[] words = {"feel", "try", "go", "drop"};
            t.add("seconds");
            for (String w : words) Collections.addAll(t, w, "" + (1 + random.nextInt(once(3) ? 99 : 9)));
            t.add(";");
        }
        if (!once(3)) Collections.addAll(t, "turned", "" + random.nextInt(17), ";");
        if (doors > 0 && !once(4)) {
            t.add("round");
            int many = 1 + random.nextInt(once(4) ? 13 : 5);
            for (int i = 0; i < many; i++) t.add(doorNames.get(random.nextInt(doors)));
            t.add(";");
        }
    }

    String rule(List<String> features, boolean spoilt) {
        List<String> t = new ArrayList<>();
        int[] left = {once(6) ? 31 : 1 + random.nextInt(15)};
        steps(t, features, left, 0);
        if (spoilt) spoil(t);
        return joined(t);
    }

    private void steps(List<String> t, List<String> features, int[] left, int depth) {
        int many = depth == 0 ? 40 : random.nextInt(5);
        for (int i = 0; i < many && left[0] > 0; i++) {
            left[0]--;
            int kind = random.nextInt(depth > (once(30) ? 3 : 2) ? 8 : 13);
            String name = features.isEmpty() ? "" : features.get(random.nextInt(features.size()));
            if (kind < 2 && !features.isEmpty()) {
                Collections.addAll(t, "feel", name, ";");
            } else if (kind < 8) {
                String plain = new String[] {"try", "go", "go", "try", "turn", once(4) ? "drop" : "go", "go",
                    once(6) ? "stop" : "try"}[random.nextInt(8)];
                Collections.addAll(t, plain, ";");
            } else {
                if (kind < 10) {
                    Collections.addAll(t, "loop", "" + (1 + random.nextInt(9)), ";");
                } else if (kind == 10 && !features.isEmpty()) {
                    String sign = "" + "<>=".charAt(random.nextInt(3));
                    Collections.addAll(t, "when", "felt", name, sign, "" + random.nextInt(4), ";");
                } else if (kind == 11) {
                    Collections.addAll(t, "when", "tried", ";");
                } else {
                    Collections.addAll(t, "when", "sure", "" + random.nextInt(once(2) ? 17 : 6), ";");
                }
                steps(t, features, left, depth + 1);
                Collections.addAll(t, "end", ";");
            }
        }
    }
}
