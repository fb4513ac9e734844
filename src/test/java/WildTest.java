import java.lang.reflect.InvocationTargetException;
import java.lang.reflect.Method;
import java.lang.reflect.Modifier;
import java.util.ArrayList;
import java.util.Comparator;
import java.util.List;
import java.util.Random;

/** Every method with wild arguments, on new and on used objects: nothing throws, a refusal says NONE or false. */
public final class WildTest {
    private static final int[] INTS = {Integer.MIN_VALUE, -1000, -2, -1, 0, 1, 2, 3, 4, 5, 6, 7, 9, 10, 11, 15, 16, 17,
        30, 31, 59, 60, 61, 899, 900, 901, 9999, 10000, 65536, Integer.MAX_VALUE - 1, Integer.MAX_VALUE};
    private static final List<String> NO_STATUS = List.of("status", "top", "bottom", "feed", "fault");
    private static int wrong = 0;

    public static void main(String[] args) throws IllegalAccessException {
        List<Method> methods = new ArrayList<>();
        for (Method m : DarkRing.class.getDeclaredMethods()) {
            if (Modifier.isPublic(m.getModifiers())) methods.add(m);
        }
        methods.sort(Comparator.comparing(Method::getName));
        int calls = 0;
        for (int run = 0; run < 600; run++) {
            Random random = new Random(run);
            Texts texts = new Texts(random);
            DarkRing x = new DarkRing();
            for (int i = 0; i < 500; i++) {
                if (run % 3 > 0 && i % 60 == 0) {
                    Due.house(x, texts.house(random.nextInt(4) == 0));
                    Due.rule(x, texts.rule(List.of(), false));
                    x.take(0);
                }
                call(x, methods.get(random.nextInt(methods.size())), random, run % 3);
                calls++;
            }
        }
        System.out.println("WildTest: " + calls + " calls, " + wrong + " wrong");
        if (wrong != 0) System.exit(1);
    }

    private static void call(DarkRing x, Method m, Random random, int tame) throws IllegalAccessException {
        Object[] with = new Object[m.getParameterCount()];
        for (int i = 0; i < with.length; i++) with[i] = argument(m.getParameterTypes()[i], random, tame);
        int before = x.status();
        try {
            Object answer = m.invoke(x, with);
            int status = x.status();
            boolean refusal = answer.equals(false) || answer.equals(-1) || answer.equals(-1L);
            if (status < 0 || status > 11 || x.bottom() <= 0) tell(m, with, "status " + status);
            if (NO_STATUS.contains(m.getName())) {
                if (status != before) tell(m, with, "changed the status");
            } else if (status != 0 && !refusal) {
                tell(m, with, answer + " with status " + status);
            } else if (answer.equals(false) && status == 0) {
                tell(m, with, "false with status 0");
            }
        } catch (InvocationTargetException e) {
            tell(m, with, "threw " + e.getCause());
        }
    }

    private static Object argument(Class<?> type, Random random, int tame) {
        if (type == boolean.class) return random.nextBoolean();
        if (type == long.class) return random.nextLong();
        if (random.nextInt(10) == 0) return random.nextInt();
        return tame > 0 && random.nextInt(6) > 0 ? random.nextInt(5) - 1 : INTS[random.nextInt(INTS.length)];
    }

    private static void tell(Method m, Object[] with, String what) {
        wrong++;
        if (wrong < 20) System.out.println(m.getName() + java.util.Arrays.toString(with) + ": " + what);
    }
}
