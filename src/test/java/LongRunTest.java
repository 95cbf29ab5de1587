import java.lang.reflect.InvocationTargetException;
import java.lang.reflect.Method;
import java.lang.reflect.Modifier;
import java.util.ArrayList;
import java.util.Arrays;
import java.util.Comparator;
import java.util.List;
import java.util.Random;

/**
 * "An object is used for at most 512 calls after it has been made": up to the 512th call by chance it answers as
 * PlainAlbum does; no call throws, whatever numbers it is given, not even one that comes later.
 */
public final class LongRunTest {
    private static final int CALLS = 512;
    private static final int[] NUMBERS = {Integer.MIN_VALUE, -2, -1, 0, 0, 0, 1, 1, 1, 2, 2, 2, 3, 3, 4, 5, 6, 7, 8, 9, 10, 12, 18, 24, 25, 32, 40, 47, 48,
        55, 56, 59, 97, 99, 100, 122, 255, 256, 999, 1000, 5039, 5040, Integer.MAX_VALUE - 1, Integer.MAX_VALUE};
    private static final String[] TEXTS = {"picture a;picture b;picture c;thing comes;thing passes;thing wears", "see 0 0 1;see 1 0 0;see 2 2 9;point 0 3 9",
        "album;picture q;picture r;picture s;picture t;thing goes;thing passes", "long 0 5 99;long 1 40 20;sun 20 3 9", "thing comes;thing wears;see 1 3 4",
        "picture", " b ", "see 0 1 1;see 1 1 0;see 2 1 1;"};

    private final Random chance;
    private final List<Method> calls = new ArrayList<>();

    private LongRunTest(long seed) {
        chance = new Random(seed);
        for (Method m : AlbumHours.class.getDeclaredMethods()) if (Modifier.isPublic(m.getModifiers())) calls.add(m);
        calls.sort(Comparator.comparing(Method::getName));
    }

    public static void main(String[] args) throws Exception {
        for (long seed = 1; seed <= 20; seed++) new LongRunTest(seed).aWholeRun(seed);
        for (long seed = 1; seed <= 30; seed++) new LongRunTest(seed).neverThrows(seed);
        Due.end();
    }

    private Object[] someNumbers(Method m, boolean wild) {
        Object[] numbers = new Object[m.getParameterCount()];
        for (int i = 0; i < numbers.length; i++) numbers[i] = wild || chance.nextInt(6) == 0 ? NUMBERS[chance.nextInt(NUMBERS.length)] : chance.nextInt(4);
        return numbers;
    }

    private Method someCall() {
        Method m = calls.get(chance.nextInt(calls.size()));
        return m.getName().equals("erase") && chance.nextInt(3) > 0 ? someCall() : m;
    }

    private static Method alike(Method m) throws Exception {
        return PlainAlbum.class.getDeclaredMethod(m.getName(), m.getParameterTypes());
    }

    /** Exactly 512 calls: texts now and then, by write(), and between them any call. */
    private void aWholeRun(long seed) throws Exception {
        AlbumHours built = new AlbumHours();
        PlainAlbum plain = new PlainAlbum();
        int made = 0;
        while (made < CALLS) {
            String text = made == 0 ? TEXTS[0] : made < CALLS - 80 && chance.nextInt(40) == 0 ? TEXTS[chance.nextInt(TEXTS.length)] : "";
            if (!text.isEmpty()) {
                built.erase();
                plain.erase();
                for (int i = 0; i < text.length(); i++) Due.is("write", built.write(text.charAt(i)), plain.write(text.charAt(i)));
                Due.is("seed " + seed + ": album() of '" + text + "'", built.album(), plain.album());
                made += text.length() + 2;
            }
            Method m = someCall();
            Object[] numbers = someNumbers(m, false);
            long answered = ((Number) m.invoke(built, numbers)).longValue();
            long due = ((Number) alike(m).invoke(plain, numbers)).longValue();
            made++;
            Due.is("seed " + seed + ", call " + made + ": " + m.getName() + Arrays.toString(numbers), answered, due);
        }
        Due.is("calls made", made, CALLS);
    }

    private void neverThrows(long seed) throws Exception {
        AlbumHours x = new AlbumHours();
        for (int made = 0; made < 4 * CALLS; made++) {
            if (made % 200 == 0) {
                x.erase();
                Due.write(x, TEXTS[chance.nextInt(TEXTS.length)]);
                x.album();
            }
            Method m = someCall();
            Object[] numbers = someNumbers(m, chance.nextBoolean());
            boolean thrown = false;
            try {
                m.invoke(x, numbers);
            } catch (InvocationTargetException e) {
                thrown = true;
            }
            Due.is("seed " + seed + ": " + m.getName() + Arrays.toString(numbers) + " threw", thrown ? 1 : 0, 0);
        }
    }
}
