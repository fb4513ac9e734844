import java.io.IOException;
import java.lang.reflect.Constructor;
import java.lang.reflect.Field;
import java.lang.reflect.Method;
import java.lang.reflect.Modifier;
import java.nio.file.Files;
import java.nio.file.Path;
import java.util.ArrayList;
import java.util.List;
import java.util.Set;
import java.util.TreeSet;
import java.util.regex.Matcher;
import java.util.regex.Pattern;

/** What of ../shared/LANGUAGE.md can be seen from the source and the classes of DarkRing. */
public final class LanguageTest {
    private static final String FACE = "public int NONE|DarkRing()|int status()|long top()|long bottom()"
            + "|boolean tray(int,int,int)|boolean write(int,int,long)|long read(int,int)"
            + "|boolean pour(int,int,int,int,int)|int feed(int,int,int,int,int)|int house(int)|int rule(int)"
            + "|int fault(int)|int many(int)|int feature(int,int)|int feels(int,int,int)|int stepOf(int,int)"
            + "|int key(int,int)|int ring(int,int)|int door(int,int)|int round(int)|boolean lay(int,int)"
            + "|boolean lend(int,boolean)|boolean put(int,int,int)|boolean off(int)|boolean take(int)"
            + "|int part(int,int)|boolean feel(int,int)|boolean goOn()|boolean turn()|boolean tried(int,boolean)"
            + "|boolean here(int)|boolean opens(int)|boolean worth(int,int)|int next(int,int)"
            + "|int searched(int,int,int,int)|boolean from(int,int,int)|boolean anywhere(int)|int laid(int,boolean)"
            + "|int inRow(int)|int walked(int)|int laidForRound(int)|int found(int)|int alike(int)"
            + "|int apart(int,boolean)|int filed(int,int)|int known(int,boolean)|boolean missing(int,int,int,int)"
            + "|int soon(int,int,int,int)|int newly(int,int,int)|int play(int,int,int)|int played(int)"
            + "|int tally(int,int,int,int)|int mark()|int back()";
    private static final String LIBRARY = "String|StringBuilder|Integer|Long|Math|System|Arrays|ArrayList|List";
    private static int wrong = 0;

    public static void main(String[] args) throws IOException {
        String source = Files.readString(Path.of("src/main/java/DarkRing.java"));
        face();
        List<Class<?>> all = new ArrayList<>(List.of(DarkRing.class.getDeclaredClasses()));
        must(all.size() <= 11, "twelve classes in all, there are " + (all.size() + 1));
        for (Class<?> c : all) {
            must(Modifier.isStatic(c.getModifiers()) && !Modifier.isPublic(c.getModifiers()), "static inside: " + c);
            must(c.getDeclaredClasses().length == 0, "no class inside " + c);
        }
        all.add(DarkRing.class);
        for (Class<?> c : all) members(c);
        String code = withoutTexts(source);
        words(code);
        lengths(code);
        for (int i = 0; i < source.length(); i++) must(source.charAt(i) < 127, "signs 1 to 127");
        System.out.println("LanguageTest: " + wrong + " wrong");
        if (wrong != 0) System.exit(1);
    }

    private static void must(boolean so, String what) {
        if (so) return;
        wrong++;
        System.out.println("not so: " + what);
    }

    private static String types(Class<?>[] types) {
        StringBuilder all = new StringBuilder();
        for (Class<?> t : types) all.append(all.length() > 0 ? "," : "").append(t.getSimpleName());
        return "(" + all + ")";
    }

    /** Rule 1: the document's face, and nothing else that is not private. */
    private static void face() {
        Set<String> due = new TreeSet<>(List.of(FACE.split("\\|")));
        Set<String> there = new TreeSet<>();
        for (Method m : DarkRing.class.getDeclaredMethods()) {
            if (m.isSynthetic() || Modifier.isPrivate(m.getModifiers())) continue;
            must(Modifier.isPublic(m.getModifiers()), "public or private: " + m);
            there.add(m.getReturnType().getSimpleName() + " " + m.getName() + types(m.getParameterTypes()));
        }
        for (Field f : DarkRing.class.getDeclaredFields()) {
            if (f.isSynthetic() || Modifier.isPrivate(f.getModifiers())) continue;
            there.add("public " + f.getType() + " " + f.getName());
        }
        for (Constructor<?> c : DarkRing.class.getConstructors()) there.add("DarkRing" + types(c.getParameterTypes()));
        must(due.equals(there), "the face is " + there);
        must(Modifier.isFinal(DarkRing.class.getModifiers()), "the class is final");
    }

    /** Rules 1, 5, 11. */
    private static void members(Class<?> c) {
        Set<String> names = new TreeSet<>();
        for (Method m : DarkRing.class.getDeclaredMethods()) {
            if (Modifier.isPublic(m.getModifiers())) names.add(m.getName());
        }
        for (Method m : c.getDeclaredMethods()) {
            boolean isFace = c == DarkRing.class && Modifier.isPublic(m.getModifiers());
            must(isFace || !names.contains(m.getName()), "another name than a public one's: " + m);
            must(m.getParameterCount() <= 7, "at most seven parameters: " + m);
        }
        int fields = 0;
        for (Field f : c.getDeclaredFields()) {
            if (f.isSynthetic()) continue;
            if (!Modifier.isStatic(f.getModifiers())) {
                fields++;
                continue;
            }
            boolean isPlain = f.getType().isPrimitive() || f.getType() == String.class;
            must(isPlain && Modifier.isFinal(f.getModifiers()), "static and final, of numbers or a text: " + f);
        }
        must(fields <= 20, "some twenty fields, " + fields + " in " + c);
    }

    private static String withoutTexts(String source) {
        return source.replaceAll("(?s)/\\*.*?\\*/", "").replaceAll("//[^\n]*", "").replaceAll("\"[^\"\n]*\"", "\"\"")
                .replaceAll("'[^'\n]{1,2}'", "' '");
    }

    /** Rules 2, 4, 6, 10, 13. */
    private static void words(String code) {
        String[] never = {"throw", "throws", "try", "catch", "finally", "synchronized", "assert", "\\w+Exact", "->", "::",
            "@", "package", "Thread", "Random", "nanoTime", "currentTimeMillis", "println", "var", "hashCode",
            "toString", "Object", "\"\"\\s*\\+", "\\+\\s*\"\"", "static\\s*\\{"};
        for (String word : never) {
            String edge = Character.isLetter(word.charAt(0)) || word.startsWith("\\w") ? "\\b" : "";
            must(!Pattern.compile(edge + word + edge).matcher(code).find(), "no " + word);
        }
        Matcher imports = Pattern.compile("import\\s+([\\w.*]+)").matcher(code);
        while (imports.find()) must(imports.group(1).equals("java.util.Arrays"), "import " + imports.group(1));
        Matcher calls = Pattern.compile("\\b([A-Z]\\w*[a-z]\\w*)\\.(\\w+)\\(").matcher(code);
        while (calls.find()) {
            boolean isOwn = code.contains("class " + calls.group(1) + " ");
            must(isOwn || Pattern.matches(LIBRARY, calls.group(1)), "the library: " + calls.group());
        }
    }

    /** Rule 11: methods of some sixty lines. */
    private static void lengths(String code) {
        String[] lines = code.split("\n");
        int since = -1;
        String indent = "";
        for (int i = 0; i < lines.length; i++) {
            Matcher m = Pattern.compile("^( {4}| {8})[\\w\\[\\]<> ]+\\([^;=]*\\{$").matcher(lines[i]);
            if (m.find() && !lines[i].contains(" class ")) {
                since = i;
                indent = m.group(1);
            } else if (since >= 0 && lines[i].equals(indent + "}")) {
                must(i - since < 60, "a method of " + (i - since + 1) + " lines: " + lines[since]);
                since = -1;
            }
            must(lines[i].length() <= 120, "lines of 120 signs: " + lines[i]);
        }
    }
}
