import java.util.List;
import java.util.function.LongSupplier;

/** Counts and prints the answers that are not the ones that are due. */
final class Due {
    private static int wrong = 0;
    private static int asked = 0;
    private static String about = "";

    private Due() {
    }

    /** What stands ahead of every line that is printed from here on. */
    static void about(String what) {
        about = what;
    }

    static void is(String call, long got, long want) {
        asked++;
        if (got != want) {
            wrong++;
            if (wrong <= 50) {
                System.out.println(about + call + " answered " + got + ", due is " + want);
            }
        }
    }

    static void odds(String call, long above, long below, long wantAbove, long wantBelow) {
        is(call + " above", above, wantAbove);
        is(call + " below", below, wantBelow);
    }

    /** A refusal: the answer that is due, and nothing is changed by the call. */
    static void refused(CadenzaEnds x, String call, LongSupplier answer, long want) {
        List<Long> was = State.of(x);
        is(call, answer.getAsLong(), want);
        is(call + " changes nothing", was.equals(State.of(x)) ? 1 : 0, 1);
    }

    static void end(String name) {
        System.out.println(name + ": " + asked + " answers, " + wrong + " not as due");
        if (wrong != 0) {
            System.exit(1);
        }
    }

    /** Feeds a text letter by letter. */
    static void feed(CadenzaEnds x, String text) {
        for (int i = 0; i < text.length(); i++) {
            x.feed(text.charAt(i));
        }
    }

    /** What hall() answers to a text. */
    static int hall(CadenzaEnds x, String text) {
        feed(x, text);
        return x.hall();
    }

    /** A new object in the hall of a text. */
    static CadenzaEnds in(String text) {
        CadenzaEnds x = new CadenzaEnds();
        int parts = hall(x, text);
        if (parts < 0) {
            is("hall() of " + text, parts, 0);
        }
        return x;
    }
}
