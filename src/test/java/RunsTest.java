import java.lang.reflect.InvocationTargetException;
import java.lang.reflect.Method;
import java.util.Arrays;
import java.util.Comparator;
import java.util.List;
import java.util.Random;

/** Runs of 512 calls of all kinds on one object, each answer against the Model's: promises 1 to 41 together. */
public final class RunsTest {
    private static final Random RANDOM = new Random(512);
    private static final Texts TEXTS = new Texts(513);
    /** Numbers at and beside the bounds of the document. */
    private static final int[] EDGES = {Integer.MIN_VALUE, -1, 0, 1, 2, 3, 4, 5, 6, 7, 8, 9, 10, 11, 12, 13, 14, 19, 20, 21, 29, 30, 31,
        32, 59, 60, 61, 98, 99, 100, 119, 120, 255, 256, 419, 420, 421, 998, 999, 1000, Integer.MAX_VALUE};
    private static final Method[] CALLS = Arrays.stream(CadenzaEnds.class.getDeclaredMethods())
            .filter(m -> java.lang.reflect.Modifier.isPublic(m.getModifiers()))
            .sorted(Comparator.comparing(Method::getName)).toArray(Method[]::new);

    /** Which number of a call is a tenth: there those are asked for at which something is. */
    private static final List<String> TENTHS = List.of("ends0", "by0", "starts1", "isIt0", "go0", "lift0", "out0", "write1", "enter1", "ahead0");

    private final CadenzaEnds x = new CadenzaEnds();
    private final Model model = new Model();
    private final StringBuilder run = new StringBuilder();
    private int calls;

    public static void main(String[] args) throws IllegalAccessException {
        for (int round = 0; round < 400; round++) {
            new RunsTest().play();
        }
        Due.end("RunsTest");
    }

    private void play() throws IllegalAccessException {
        while (calls < 512) {
            if (RANDOM.nextInt(100) == 0 || calls == 0) {
                tell(RANDOM.nextInt(3) == 0 ? TEXTS.spoil(TEXTS.sound()) : TEXTS.sound());
            } else {
                call(CALLS[RANDOM.nextInt(CALLS.length)]);
            }
        }
    }

    private void tell(String text) throws IllegalAccessException {
        for (int i = 0; i < text.length() && calls < 512; i++) {
            answer("feed", text.charAt(i));
        }
        answer("hall");
    }

    private void call(Method method) throws IllegalAccessException {
        String name = method.getName();
        // these would leave too little to ask for, were they as frequent as the others
        if (List.of("feed", "hall", "tear").contains(name) && RANDOM.nextInt(50) > 0) {
            return;
        }
        int[] numbers = new int[method.getParameterCount()];
        for (int i = 0; i < numbers.length; i++) {
            boolean tenth = TENTHS.contains(name + i) && RANDOM.nextInt(4) > 0;
            boolean last = i == numbers.length - 1;
            numbers[i] = tenth ? model.tenth(RANDOM) : RANDOM.nextInt(last && RANDOM.nextInt(3) > 0 ? 2 : 4);
        }
        if (numbers.length > 0 && RANDOM.nextInt(5) == 0) {
            numbers[RANDOM.nextInt(numbers.length)] = EDGES[RANDOM.nextInt(EDGES.length)];
        }
        answer(name, numbers);
    }

    private void answer(String name, int... numbers) throws IllegalAccessException {
        if (calls == 512) {
            return;
        }
        calls++;
        run.append(name).append(Arrays.toString(numbers)).append(' ');
        Method method = Arrays.stream(CALLS).filter(m -> m.getName().equals(name)).findFirst().orElseThrow();
        try {
            long answer = ((Number) method.invoke(x, Arrays.stream(numbers).boxed().toArray())).longValue();
            long due = model.call(name, numbers);
            Due.is(answer == due ? "" : "the last of " + run, answer, due);
        } catch (InvocationTargetException thrown) {
            Due.is("the last of " + run + "threw " + thrown.getCause(), 1, 0);
        }
    }
}
