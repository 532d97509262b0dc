import java.lang.reflect.InvocationTargetException;
import java.lang.reflect.Method;
import java.lang.reflect.Modifier;
import java.util.ArrayList;
import java.util.Comparator;
import java.util.List;
import java.util.Random;

/**
 * Any call with any numbers in any state answers, far beyond the 512 calls too (LANGUAGE.md, rule 7), and
 * the same calls on another object answer the same (rule 13).
 */
public final class NeverThrowsTest {
    private static final Check c = new Check("never throws");
    private static final int RUNS = 60, CALLS = 6000;
    private static final int[] EDGES = {Integer.MIN_VALUE, Integer.MIN_VALUE + 1, Integer.MAX_VALUE,
        Integer.MAX_VALUE - 1, -1, -2, 7, 8, 20, 21, 30, 31, 32, 39, 40, 41, 60, 63, 64, 120, 127, 128, 255, 256,
        999999, 1000000, 1 << 16, 1 << 30, -1000000};
    private static final String[] TEXTS = {
        "g20,60,99;b20,20,7;w20,20,0;h20,20,1;c20,20,2;j20,20,3;b11,9,4;c9,1,5;e20,7,50;e11,0,1;e16,1,9;e0,0,9;e9,3,9;",
        "g0,0,0;b0,1,7;", "g5,60,99;c9,1,7;c9,1,7;c9,1,7;c9,1,7;c9,1,7;c9,1,7;c9,1,7;",
        "g1,9,9;w1,2,7;e1,0,1;", "g1,9,999;", "j1,1,7;", "", "\u00ff\u0000"};

    private final Random draw;
    private final GuildPiece one = new GuildPiece();
    private final GuildPiece other = new GuildPiece();
    private final String run;

    private NeverThrowsTest(int seed) {
        draw = new Random(seed);
        run = "run " + seed + ": ";
    }

    public static void main(String[] args) {
        List<Method> methods = new ArrayList<>();
        for (Method m : GuildPiece.class.getDeclaredMethods()) {
            if (Modifier.isPublic(m.getModifiers())) {
                methods.add(m);
            }
        }
        methods.sort(Comparator.comparing(Method::getName));
        c.due("methods", methods.size(), 35);
        for (int seed = 0; seed < RUNS; seed++) {
            new NeverThrowsTest(seed).go(methods);
        }
        c.end();
    }

    private void go(List<Method> methods) {
        for (int call = 0; call < CALLS; call++) {
            if (call % 200 == 0) {
                tell(TEXTS[draw.nextInt(TEXTS.length)]);
            }
            Method m = methods.get(draw.nextInt(methods.size()));
            Object[] numbers = new Object[m.getParameterCount()];
            for (int i = 0; i < numbers.length; i++) {
                numbers[i] = draw.nextInt(5) == 0 ? EDGES[draw.nextInt(EDGES.length)] : draw.nextInt(9);
            }
            alike(m, numbers);
        }
    }

    private void tell(String text) {
        one.trial();
        other.trial();
        c.due(run + text, Check.tell(one, text), Check.tell(other, text));
    }

    private void alike(Method m, Object[] numbers) {
        String call = run + m.getName() + List.of(numbers);
        try {
            Object first = m.invoke(one, numbers);
            c.holds(call + " on another object", first.equals(m.invoke(other, numbers)));
        } catch (InvocationTargetException e) {
            c.holds(call + " threw " + e.getCause(), false);
        } catch (IllegalAccessException e) {
            throw new IllegalStateException(e);
        }
    }
}
