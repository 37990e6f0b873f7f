import java.lang.reflect.InvocationTargetException;
import java.lang.reflect.Method;
import java.lang.reflect.Modifier;
import java.util.ArrayList;
import java.util.Comparator;
import java.util.List;
import java.util.NoSuchElementException;
import java.util.Random;

/** Wild arguments in any state: nothing is thrown but what person may throw. */
public final class WildTest {
    private static final int[] WILD = {0, 1, 2, 3, 4, 5, 6, 7, 9, 10, 11, 19, 20, 21, 30, 31, 32, 33, 59, 60, 61, 63, 64,
        99, 100, 239, 240, 241, 998, 999, 1000, 65535, 65536, 1 << 20, 1 << 30, Integer.MAX_VALUE, -1, -2, -3, -10, -31,
        -32, -1000000, Integer.MIN_VALUE, Integer.MIN_VALUE + 1};
    private static final Check check = new Check();

    public static void main(String[] args) {
        List<Method> face = new ArrayList<>();
        for (Method m : VelvetStates.class.getDeclaredMethods()) {
            if (Modifier.isPublic(m.getModifiers())) {
                face.add(m);
            }
        }
        face.sort(Comparator.comparing(Method::getName));
        for (int seed = 0; seed < 400; seed++) {
            Random r = new Random(seed);
            VelvetStates x = new VelvetStates();
            Texts texts = new Texts(r);
            for (int i = 0; i < 512; i++) {
                if (r.nextInt(60) == 0) {
                    begin(x, texts, r);
                }
                call(x, face.get(r.nextInt(face.size())), r);
            }
        }
        check.end("WildTest");
    }

    private static void begin(VelvetStates x, Texts texts, Random r) {
        x.end(0);
        Check.feed(x, texts.room());
        x.text(0);
        if (r.nextBoolean()) {
            x.end(0);
            Check.law(x, texts.law());
        }
    }

    private static void call(VelvetStates x, Method m, Random r) {
        Class<?>[] kinds = m.getParameterTypes();
        Object[] given = new Object[kinds.length];
        for (int i = 0; i < kinds.length; i++) {
            if (kinds[i] == boolean.class) {
                given[i] = r.nextBoolean();
            } else if (kinds[i] == long.class) {
                given[i] = r.nextBoolean() ? (Long) r.nextLong() : (Long) (long) WILD[r.nextInt(WILD.length)];
            } else {
                given[i] = m.getName().equals("feed") ? r.nextInt() & r.nextInt() & 0x7F7F7F7F : WILD[r.nextInt(WILD.length)];
            }
        }
        try {
            m.invoke(x, given);
            check.due(m.getName() + " ends", 1, 1);
        } catch (InvocationTargetException e) {
            boolean may = m.getName().equals("person") && e.getCause().getClass() == NoSuchElementException.class;
            check.due(m.getName() + List.of(given) + " threw " + e.getCause(), may, true);
        } catch (IllegalAccessException e) {
            check.due("access to " + m.getName(), 0, 1);
        }
    }
}
