import java.lang.reflect.InvocationTargetException;
import java.lang.reflect.Method;
import java.util.Arrays;
import java.util.Comparator;
import java.util.List;
import java.util.Random;

/** Every call with every kind of number, in many states: none throws, and what is refused or only asks changes nothing. */
public final class RefusalTest {
    private static final Random RANDOM = new Random(17);
    private static final int[] ODD = {Integer.MIN_VALUE, Integer.MAX_VALUE, -2, -1, 0, 1, 2, 3, 4, 5, 7, 8, 9, 11, 12, 14,
        20, 21, 30, 31, 32, 60, 61, 99, 100, 250, 255, 256, 420, 421, 480, 999, 1000};
    private static final List<String> CHANGING = List.of("feed", "hall", "costs", "sign", "lags", "lead", "drift", "enter",
            "write", "tear", "seed", "keep", "goBack");
    private static final String[] TEXTS = {"", "p0 0 0 1;", "l1 2;l3 4;i5 6;",
        "p0 0 0 10,20;p2 4 7 5,9;p1 2 2 3;p3 0 0 8,11,30;s6 2;c3 2 1;l4 2;l9 3;l0 12;i7 10;i2 1;",
        "p2 7 0 60,60,60,60;p2 7 3 60,1,2,3;p2 0 6 60,59,58,57;p1 3 9 1,2,4,8;p0 5 1 60,30;p2 6 11 60;p3 0 2 60,1,1,1;"
            + "c20 20 20;s4 4;l30 0;l0 30;l15 15;l7 8;l8 7;i0 0;i1 99;i2 3;i3 4;i11 0;"};

    public static void main(String[] args) throws IllegalAccessException {
        Method[] calls = Arrays.stream(CadenzaEnds.class.getDeclaredMethods())
                .filter(m -> java.lang.reflect.Modifier.isPublic(m.getModifiers()))
                .sorted(Comparator.comparing(Method::getName)).toArray(Method[]::new);
        for (int round = 0; round < 300; round++) {
            CadenzaEnds x = Due.in(TEXTS[round % TEXTS.length]);
            for (int step = 0; step < 200; step++) {
                ask(x, calls[RANDOM.nextInt(calls.length)]);
            }
        }
        Due.end("RefusalTest");
    }

    private static void ask(CadenzaEnds x, Method call) throws IllegalAccessException {
        Object[] numbers = new Object[call.getParameterCount()];
        for (int i = 0; i < numbers.length; i++) {
            numbers[i] = RANDOM.nextInt(3) == 0 ? ODD[RANDOM.nextInt(ODD.length)] : RANDOM.nextInt(9);
        }
        String name = call.getName() + Arrays.toString(numbers);
        List<Long> was = State.of(x);
        try {
            long answer = ((Number) call.invoke(x, numbers)).longValue();
            boolean refused = answer <= CadenzaEnds.UNKNOWN && answer >= CadenzaEnds.FULL;
            if (refused || !CHANGING.contains(call.getName())) {
                Due.is(name + " changes nothing", was.equals(State.of(x)) ? 1 : 0, 1);
            }
        } catch (InvocationTargetException thrown) {
            Due.is(name + " threw " + thrown.getCause(), 1, 0);
        }
    }
}
