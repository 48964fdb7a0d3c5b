import java.lang.reflect.InvocationTargetException;
import java.lang.reflect.Method;
import java.lang.reflect.Modifier;
import java.util.ArrayList;
import java.util.Arrays;
import java.util.List;

/**
 * Rule 7 of LANGUAGE.md: every call of the face with all arguments of a row, in all their pairings, in cities that
 * are new, least, full and broken: what it throws is what its face names, thrown by the class and not by the machine.
 */
public final class AnyArgumentsTest {
    private static final Integer[] FEW = {Integer.MIN_VALUE, -1, 0, 7, 24, 29, Integer.MAX_VALUE};
    private static final Integer[] MANY = {Integer.MIN_VALUE, -1000, -2, -1, 0, 1, 3, 5, 6, 8, 9, 12, 23, 24, 29, 30, 31, 32,
        60, 61, 99, 100, 101, 300, 301, 400, 999, 1000, 9999, 10000, Integer.MAX_VALUE};
    private static final Boolean[] BOTH = {false, true};

    public static void main(String[] args) throws IllegalAccessException {
        for (Method m : GlassCity.class.getDeclaredMethods()) {
            if (Modifier.isPublic(m.getModifiers())) {
                for (int kind = 0; kind < 5; kind++) {
                    tryAll(m, cityOf(kind), new ArrayList<>());
                }
            }
        }
        Kit.finish("AnyArgumentsTest");
    }

    private static void tryAll(Method m, GlassCity x, List<Object> chosen) throws IllegalAccessException {
        if (chosen.size() == m.getParameterCount()) {
            Kit.same(m.getName() + chosen, "as its face says", outcome(m, x, chosen.toArray()));
            return;
        }
        Object[] row = m.getParameterTypes()[chosen.size()] == boolean.class ? BOTH : m.getParameterCount() > 3 ? FEW : MANY;
        for (Object value : row) {
            chosen.add(value);
            tryAll(m, x, chosen);
            chosen.remove(chosen.size() - 1);
        }
    }

    private static String outcome(Method m, GlassCity x, Object[] values) throws IllegalAccessException {
        try {
            m.invoke(x, values);
            return "as its face says";
        } catch (InvocationTargetException e) {
            // a subclass would be the machine's own, so the class itself must be among those named
            boolean named = Arrays.asList(m.getExceptionTypes()).contains(e.getCause().getClass());
            return named ? "as its face says" : e.getCause().toString();
        }
    }

    private static GlassCity cityOf(int kind) {
        switch (kind) {
            case 0: return new GlassCity();
            case 1: return Kit.of("size 1 1;cold 0 0 40");
            case 2: return full();
            case 3: return broken();
            default: return withoutRoom();
        }
    }

    private static GlassCity full() {
        GlassCity x = Kit.of("size 6 5;heat 0 0 60;cold 5 4 40;thick 2 2 9;thick 3 2 1;cart 200 5 4 23 to 0;cart 1 0 0 5 to 5 felt");
        Kit.shame(x, "hide if not(not(not(1+1+load<hour or(light>9 and 0<1))));fine 999;show");
        for (int seer = 0; seer < 6; seer++) {
            x.seer();
            for (int pane = 0; pane < 30; pane++) {
                x.offer(seer, pane, (7 * seer + 11 * pane) % 100);
            }
        }
        x.image();
        return x;
    }

    private static GlassCity broken() {
        GlassCity x = Kit.of("size 6 5");
        for (int pane = 0; pane < 30; pane++) {
            Kit.crack(x, pane, 3);
        }
        return x;
    }

    private static GlassCity withoutRoom() {
        GlassCity x = Kit.of(" | | | | | | | | | ");
        for (int i = 0; i < 20; i++) {
            x.feed(-1, 0x20202020, 0, 0x7a7a7a7a, Integer.MIN_VALUE);
        }
        return x;
    }
}
