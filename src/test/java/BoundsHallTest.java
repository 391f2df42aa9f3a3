import java.util.List;

/** The boundaries that promises 1 to 9 name: a new object, the text, the hall, what is told of it. */
public final class BoundsHallTest {
    private static final int NONE = CadenzaEnds.NONE;
    private static final int UNKNOWN = CadenzaEnds.UNKNOWN;
    private static final int OUTSIDE = CadenzaEnds.OUTSIDE;
    private static final int FULL = CadenzaEnds.FULL;
    private static final int NOT = CadenzaEnds.NOT;
    private static final int[] FAR = {-1, Integer.MIN_VALUE, Integer.MAX_VALUE, CadenzaEnds.UNKNOWN};
    private static final String FULLEST = "p1 6 1 59;p2 5 2 1,2;p0 4 3 3,4,5;p2 3 4 6,7,8,9;p1 2 5 10;p2 1 6 11;p3 0 11 57,58,59,60;"
            + "l1 2;l3 4;l5 6;l7 8;l29 30;i1 2;i3 4;i5 6;i7 8;i11 99;s7 6;c20 19 18;";

    public static void main(String[] args) {
        refusalNumbers();
        refusalsInOrder();
        refusedChangesNothing();
        newObject();
        feedLetters();
        feedFull();
        hallEmptiesTheText();
        hallBeginsAnew();
        hallWithAFault();
        hallsInTurns();
        faultOfTheLatest();
        toldBounds();
        partBounds();
        lengthBounds();
        playerBounds();
        instrumentBounds();
        Doc.named(1, 9);
        Due.end("BoundsHallTest");
    }

    private static void refusalNumbers() {
        Doc.says(Doc.TERMS, "They are far below all that is counted: -1000000001 and on.");
        Due.is("UNKNOWN", UNKNOWN, -1000000001);
        Due.is("OUTSIDE", OUTSIDE, -1000000002);
        Due.is("NOT", NOT, -1000000003);
        Due.is("FULL", FULL, -1000000004);
        Doc.says(Doc.TERMS, "NONE is -1.");
        Due.is("NONE", NONE, -1);
    }

    /** Two or three reasons at once, with everything full. */
    private static void refusalsInOrder() {
        Doc.says(Doc.TERMS, "UNKNOWN (a PART, PLAYER, IMAGE that there is not; one twice; bits of such), OUTSIDE (another number out of its bounds), "
                + "NOT (not now, as told), FULL.");
        CadenzaEnds x = full();
        Due.refused(x, "part", () -> x.part(7, 4), UNKNOWN);
        Due.refused(x, "player", () -> x.player(5, 2), UNKNOWN);
        Due.refused(x, "instrument", () -> x.instrument(5, 2), UNKNOWN);
        Due.refused(x, "lags", () -> x.lags(5, 31, 31), UNKNOWN);
        Due.refused(x, "lead", () -> x.lead(32 + 31), UNKNOWN);
        Due.refused(x, "starts", () -> x.starts(7, 421, 2), UNKNOWN);
        Due.refused(x, "lost", () -> x.lost(7, 12), UNKNOWN);
        Due.refused(x, "help", () -> x.help(7, 12), UNKNOWN);
        Due.refused(x, "enter", () -> x.enter(5, 1000), UNKNOWN);
        Due.refused(x, "write", () -> x.write(7, 61), UNKNOWN);
        Due.refused(x, "enter", () -> x.enter(5, 0), UNKNOWN);
        Due.refused(x, "write", () -> x.write(7, 0), UNKNOWN);
        Due.refused(x, "goBack", () -> x.goBack(2), UNKNOWN);
        Due.refused(x, "isIt", () -> x.isIt(419, 60, 3, 0), OUTSIDE);
        Due.refused(x, "isIt", () -> x.isIt(419, 61, 2, 0), OUTSIDE);
        Due.refused(x, "isIt", () -> x.isIt(419, 60, 2, 2), OUTSIDE);
        Due.refused(x, "isIt", () -> x.isIt(419, 60, 2, 0), NOT);
        Due.refused(x, "feed", () -> x.feed(256), OUTSIDE);
        Due.refused(x, "enter", () -> x.enter(0, 1000), OUTSIDE);
        Due.refused(x, "write", () -> x.write(0, 61), OUTSIDE);
        Due.refused(x, "feed", () -> x.feed(' '), FULL);
        Due.refused(x, "enter", () -> x.enter(0, 0), FULL);
        Due.refused(x, "write", () -> x.write(0, 0), FULL);
    }

    private static CadenzaEnds full() {
        CadenzaEnds x = changed();
        for (int i = 0; i < 250; i++) {
            x.feed(' ');
            x.enter(1, i);
            x.write(1, i % 61);
        }
        return x;
    }

    private static void refusedChangesNothing() {
        Doc.says(Doc.TERMS, "What is refused changes nothing.");
        CadenzaEnds x = full();
        x.costs(7, 6, 5);
        Due.refused(x, "feed", () -> x.feed('p'), FULL);
        Due.refused(x, "costs", () -> x.costs(1, 1, 21), OUTSIDE);
        Due.refused(x, "sign", () -> x.sign(1, 9), OUTSIDE);
        Due.refused(x, "lags", () -> x.lags(0, 1, 31), OUTSIDE);
        Due.refused(x, "lead", () -> x.lead(32), UNKNOWN);
        Due.refused(x, "drift", () -> x.drift(100), OUTSIDE);
        Due.refused(x, "enter", () -> x.enter(0, 0), FULL);
        Due.refused(x, "write", () -> x.write(0, 0), FULL);
        Due.refused(x, "seed", () -> x.seed(-1), OUTSIDE);
        Due.refused(x, "keep", () -> x.keep(2), UNKNOWN);
        Due.refused(x, "goBack", () -> x.goBack(2), UNKNOWN);
        Due.is("goBack(0): the image is as it was", x.goBack(0), 1);
        Due.is("E of the image", x.told(6), 1);
        Due.is("hall(): the text is as it was", x.hall(), 0);
    }

    private static void newObject() {
        Doc.says(1, "No PARTS: it ends at tenth 0.");
        CadenzaEnds x = new CadenzaEnds();
        Due.is("told(0)", x.told(0), 0);
        Due.odds("ends(0)", x.ends(0, 0), x.ends(0, 1), 1, 1);
        Due.odds("by(0)", x.by(0, 0), x.by(0, 1), 1, 1);
        Due.odds("ends(1)", x.ends(1, 0), x.ends(1, 1), 0, 1);
        Due.odds("ends(420)", x.ends(420, 0), x.ends(420, 1), 0, 1);
        Due.odds("mean", x.mean(0), x.mean(1), 0, 1);
        Due.is("edge(0)", x.edge(0), 0);
        Due.is("edge(1)", x.edge(1), 0);
        Due.is("out(0, 0)", x.out(0, 0), 1);
        Due.is("out(0, 1)", x.out(0, 1), 0);
        Due.is("out(0, 2)", x.out(0, 2), 0);
        Due.is("out(1, 0)", x.out(1, 0), 0);
        Due.is("out(1, 2)", x.out(1, 2), NONE);
        Due.refused(x, "part(0, 0)", () -> x.part(0, 0), UNKNOWN);
        Due.refused(x, "write(0, 0)", () -> x.write(0, 0), UNKNOWN);
        Due.refused(x, "enter(0, 0)", () -> x.enter(0, 0), UNKNOWN);
        Due.is("fault()", x.fault(), NONE);
        Due.is("seed", x.seed(1), 0);
        Due.is("goBack(0)", x.goBack(0), NOT);
        Due.is("goBack(1)", x.goBack(1), NOT);
        newAsEmptied();
    }

    /** Every tenth of a new object is as with an empty text behind the fullest hall. */
    private static void newAsEmptied() {
        CadenzaEnds x = new CadenzaEnds();
        CadenzaEnds emptied = full();
        emptied.hall();
        Due.is("hall() of an empty text", emptied.hall(), 0);
        for (int t = 0; t <= 420; t++) {
            for (int side = 0; side < 2; side++) {
                Due.is("ends(" + t + ", " + side + ")", x.ends(t, side), emptied.ends(t, side));
                Due.is("by(" + t + ", " + side + ")", x.by(t, side), emptied.by(t, side));
                Due.is("go(" + t + ", " + side + ")", x.go(t, side), emptied.go(t, side));
                Due.is("lift(" + t + ", 60, " + side + ")", x.lift(t, 60, side), emptied.lift(t, 60, side));
            }
            Due.odds("by(" + t + ")", x.by(t, 0), x.by(t, 1), 1, 1);
            Due.odds("go(" + t + ")", x.go(t, 0), x.go(t, 1), 2L * t, 1);
        }
    }

    private static void feedLetters() {
        Doc.says(2, "One letter (a number 0 .. 255) comes behind THE TEXT: how many it has.");
        for (int letter = 0; letter < 256; letter++) {
            CadenzaEnds x = new CadenzaEnds();
            Due.is("feed(" + letter + ")", x.feed(letter), 1);
            Due.is("told(3)", x.told(3), 1);
        }
        Doc.says(2, "OUTSIDE");
        CadenzaEnds x = new CadenzaEnds();
        Due.feed(x, "p0 0 0 1");
        for (int letter : new int[] {-1, 256, 257, 256 + ';', ';' - 256, Integer.MIN_VALUE, Integer.MAX_VALUE}) {
            Due.refused(x, "feed(" + letter + ")", () -> x.feed(letter), OUTSIDE);
        }
        Due.is("feed(';')", x.feed(';'), 9);
        Due.is("hall()", x.hall(), 1);
    }

    private static void feedFull() {
        Doc.says(2, "FULL (250).");
        CadenzaEnds x = new CadenzaEnds();
        Due.feed(x, "p0 0 0 1;" + " ".repeat(240));
        Due.is("the 250th", x.feed(' '), 250);
        for (int letter : new int[] {0, ' ', ';', 'x', 255}) {
            Due.refused(x, "the 251st, " + letter, () -> x.feed(letter), FULL);
        }
        Doc.says(Doc.TERMS, "REFUSALS, of several the first in this order");
        Due.refused(x, "feed(256), full", () -> x.feed(256), OUTSIDE);
        Due.refused(x, "feed(-1), full", () -> x.feed(-1), OUTSIDE);
        Due.is("hall() of 250 letters", x.hall(), 1);
        Due.is("feed() again", x.feed('x'), 1);
    }

    private static void hallEmptiesTheText() {
        Doc.says(3, "THE TEXT (it is empty then, with a FAULT, too) becomes THE HALL");
        CadenzaEnds x = new CadenzaEnds();
        Due.is("hall()", Due.hall(x, "p0 0 0 1;"), 1);
        Due.is("told(3)", x.told(3), 0);
        Due.is("hall() of what is left", x.hall(), 0);
        Due.is("hall() with a fault", Due.hall(x, "p0 0 0 1;x"), -11);
        Due.is("told(3)", x.told(3), 0);
        Due.is("hall() of what is left", x.hall(), 0);
        Due.is("feed()", x.feed('p'), 1);
        Doc.says(3, "how many PARTS");
        x.hall();
        Due.is("hall() of seven", Due.hall(x, FULLEST), 7);
        Due.is("hall() of none", Due.hall(x, "l1 1;"), 0);
    }

    private static CadenzaEnds changed() {
        CadenzaEnds x = Due.in(FULLEST);
        x.costs(1, 2, 3);
        x.sign(4, 5);
        x.lags(4, 9, 10);
        x.seed(77);
        x.drift(9);
        x.lead(31);
        x.enter(4, 999);
        x.write(6, 60);
        x.keep(0);
        x.keep(1);
        return x;
    }

    private static void hallBeginsAnew() {
        CadenzaEnds x = changed();
        int seed = x.seed(0);
        x.seed(seed);
        Due.is("hall()", Due.hall(x, FULLEST), 7);
        Doc.says(3, "nobody by the leader");
        Due.is("told(9)", x.told(9), 0);
        Due.is("apart() by the stick", x.apart(), 28);
        Doc.says(3, "nothing PAID, no nights");
        Due.is("told(10)", x.told(10), 0);
        Due.is("told(11)", x.told(11), 0);
        Doc.says(3, "no ENTRIES, no BOOK");
        Due.is("told(12)", x.told(12), 0);
        Due.is("firstIn(0)", x.firstIn(0), NONE);
        Due.is("ahead(999)", x.ahead(999), 0);
        Due.is("told(13)", x.told(13), 0);
        Due.is("judge()", x.judge(), NONE);
        Doc.says(3, "IMAGES are gone");
        Due.refused(x, "goBack(0)", () -> x.goBack(0), NOT);
        Due.refused(x, "goBack(1)", () -> x.goBack(1), NOT);
        Doc.says(3, "THE SEED stays");
        Due.is("seed()", x.seed(0), seed);
        Due.is("costs as told", x.told(6) * 10000 + x.told(7) * 100 + x.told(8), 201918);
        Due.is("signs as told", x.told(4) * 10 + x.told(5), 76);
        Due.is("lags as told", x.player(4, 0) * 100 + x.player(4, 1), 2930);
    }

    private static void hallWithAFault() {
        Doc.says(3, "-10 less the number of its FAULT (all else is as it was)");
        String[] texts = {"x", "p1 1 1 1;l9 9;i9 9;s1 1;c1 1 1;x", "p9", "p1 1 1 1;s1 1;s1 1;", "p3 0 1 1;p", "p3 1"};
        int[] due = {-11, -11, -12, -13, -14, -14};
        int[] letters = {0, 31, 1, 14, 9, 3};
        for (int i = 0; i < texts.length; i++) {
            CadenzaEnds x = changed();
            Due.is("hall()", Due.hall(x, texts[i]), due[i]);
            Due.is("fault()", x.fault(), letters[i]);
            alike(x, changed(), "behind '" + texts[i] + "'");
            Due.is("image 0 is there", x.goBack(0), 1);
            Due.is("image 1 is there", x.goBack(1), 1);
            alike(x, changed(), "the image behind '" + texts[i] + "'");
        }
    }

    private static void alike(CadenzaEnds x, CadenzaEnds other, String when) {
        Due.is("all is as it was " + when, State.butFault(x).equals(State.butFault(other)) ? 1 : 0, 1);
    }

    /** One object from hall to hall, over faults and changes: each hall is as it is for a new object. */
    private static void hallsInTurns() {
        Doc.says(3, "becomes THE HALL");
        String[] texts = {"", FULLEST, "p0 0 0 5;", "p0 0 0 1;p0 1 0 1;", "p2 1 3 60,1,2,3;p3 0 1 60,1;s1 1;", "l3 30;l4 2;i1 1;c1 2 3;", "p3 0 0 1;"};
        CadenzaEnds x = new CadenzaEnds();
        for (int round = 0; round < 3 * texts.length * texts.length; round++) {
            String text = texts[(round + round / texts.length * (round % 3)) % texts.length];
            Due.hall(x, text);
            CadenzaEnds fresh = Due.in(text);
            x.seed(0);
            Due.is("hall " + round + ", '" + text + "', is as for a new object", State.of(x).equals(State.of(fresh)) ? 1 : 0, 1);
            for (int t = 0; t <= 420; t++) {
                for (int what = 0; what < 3; what++) {
                    Due.is("out(" + t + ", " + what + ") in hall " + round, x.out(t, what), fresh.out(t, what));
                }
                Due.is("by(" + t + ", 0) in hall " + round, x.by(t, 0), fresh.by(t, 0));
                Due.is("isIt(" + t + ", 2, 1, 0) in hall " + round, x.isIt(t, 2, 1, 0), fresh.isIt(t, 2, 1, 0));
            }
            x.lead(x.told(1) > 0 ? 1 : 0);
            x.costs(round % 21, 3, 4);
            x.sign(round % 9, 5);
            x.lags(0, 7, 7);
            x.drift(3);
            x.enter(0, 1);
            x.write(0, 1);
            List<Long> was = State.butFault(x);
            Due.hall(x, "p1 1 1 1,1,1,1;l1 1;i2 2;s2 2;c2 2 2;x");
            Due.is("a fault behind hall " + round + " changes nothing", was.equals(State.butFault(x)) ? 1 : 0, 1);
        }
    }

    private static void faultOfTheLatest() {
        Doc.says(4, "The letter of the FAULT of the latest hall(); NONE.");
        CadenzaEnds x = new CadenzaEnds();
        Due.is("ahead of a hall()", x.fault(), NONE);
        Due.feed(x, "  x");
        Due.is("only fed", x.fault(), NONE);
        x.hall();
        Due.is("behind '  x'", x.fault(), 2);
        Due.feed(x, "x");
        Due.is("only fed", x.fault(), 2);
        x.hall();
        Due.is("behind 'x'", x.fault(), 0);
        Due.feed(x, " ".repeat(249) + "p");
        x.hall();
        Due.is("at the end of the longest text", x.fault(), 250);
        x.hall();
        Due.is("behind an empty text", x.fault(), NONE);
    }

    private static void toldBounds() {
        Doc.says(5, "OUTSIDE");
        CadenzaEnds x = Due.in(FULLEST);
        for (int what : new int[] {-1, 14, Integer.MIN_VALUE, Integer.MAX_VALUE}) {
            Due.refused(x, "told(" + what + ")", () -> x.told(what), OUTSIDE);
        }
        Doc.says(5, "0 PARTS, 1 PLAYERS, 2 INSTRUMENTS, 3 letters of THE TEXT, 4 A, 5 B, 6 E, 7 L, 8 H, "
                + "9 who goes by the leader (a SET), 10 PAID, 11 nights by draws, 12 ENTRIES, 13 entries of THE BOOK.");
        x.lead(31);
        for (int i = 0; i < 250; i++) {
            x.feed('x');
        }
        for (int i = 0; i < 12; i++) {
            x.enter(0, 0);
        }
        for (int i = 0; i < 20; i++) {
            x.write(0, 0);
        }
        int paid = x.drift(99);
        int[] due = {7, 5, 5, 250, 7, 6, 20, 19, 18, 31, paid, 99, 12, 20};
        for (int what = 0; what < 14; what++) {
            Due.is("told(" + what + ")", x.told(what), due[what]);
        }
    }

    private static void partBounds() {
        Doc.says(6, "what = 0 SORT, 1 O, 2 KEY, 3 how many LENGTHS. UNKNOWN, OUTSIDE.");
        CadenzaEnds x = Due.in(FULLEST);
        Due.is("SORT of the last", x.part(6, 0), 3);
        Due.is("O of the last", x.part(6, 1), 0);
        Due.is("KEY of the last", x.part(6, 2), 11);
        Due.is("LENGTHS of the last", x.part(6, 3), 4);
        Due.is("SORT of the first", x.part(0, 0), 1);
        Due.is("O of the first", x.part(0, 1), 6);
        Due.is("KEY of the first", x.part(0, 2), 1);
        Due.is("LENGTHS of the first", x.part(0, 3), 1);
        Due.refused(x, "part(7, 0)", () -> x.part(7, 0), UNKNOWN);
        Due.refused(x, "part(0, 4)", () -> x.part(0, 4), OUTSIDE);
        for (int far : FAR) {
            Due.refused(x, "part(" + far + ", 0)", () -> x.part(far, 0), UNKNOWN);
            Due.refused(x, "part(0, " + far + ")", () -> x.part(0, far), OUTSIDE);
            Due.refused(x, "part(7, " + far + ")", () -> x.part(7, far), UNKNOWN);
        }
        // PARTS of an earlier hall are gone
        Due.hall(x, "p0 0 0 1;");
        Due.refused(x, "part(1, 0)", () -> x.part(1, 0), UNKNOWN);
    }

    private static void lengthBounds() {
        Doc.says(7, "The i-th LENGTH of a PART; NONE: not so many. UNKNOWN.");
        CadenzaEnds x = Due.in(FULLEST);
        for (int i = 0; i < 4; i++) {
            Due.is("length(6, " + i + ")", x.length(6, i), 57 + i);
        }
        Due.is("length(6, 4)", x.length(6, 4), NONE);
        Due.is("length(0, 0)", x.length(0, 0), 59);
        Due.is("length(0, 1)", x.length(0, 1), NONE);
        Due.is("length(1, 2)", x.length(1, 2), NONE);
        Due.is("length(2, 3)", x.length(2, 3), NONE);
        Due.refused(x, "length(7, 0)", () -> x.length(7, 0), UNKNOWN);
        for (int far : FAR) {
            Due.is("length(0, " + far + ")", x.length(0, far), NONE);
            Due.refused(x, "length(" + far + ", 0)", () -> x.length(far, 0), UNKNOWN);
            Due.refused(x, "length(7, " + far + ")", () -> x.length(7, far), UNKNOWN);
        }
        // LENGTHS of an earlier hall are gone
        Due.hall(x, "p0 0 0 1,2,3,4;");
        Due.hall(x, "p0 0 0 5;");
        Due.hall(x, "p0 0 0 6;");
        Due.is("length(0, 1) of a shorter one", x.length(0, 1), NONE);
    }

    private static void playerBounds() {
        Doc.says(8, "what = 0 T, 1 M. UNKNOWN, OUTSIDE.");
        CadenzaEnds x = Due.in(FULLEST);
        Due.is("T of the first", x.player(0, 0), 1);
        Due.is("M of the first", x.player(0, 1), 2);
        Due.is("T of the fifth", x.player(4, 0), 29);
        Due.is("M of the fifth", x.player(4, 1), 30);
        Due.refused(x, "player(5, 0)", () -> x.player(5, 0), UNKNOWN);
        Due.refused(x, "player(0, 2)", () -> x.player(0, 2), OUTSIDE);
        for (int far : FAR) {
            Due.refused(x, "player(" + far + ", 0)", () -> x.player(far, 0), UNKNOWN);
            Due.refused(x, "player(0, " + far + ")", () -> x.player(0, far), OUTSIDE);
            Due.refused(x, "player(5, " + far + ")", () -> x.player(5, far), UNKNOWN);
        }
        Due.hall(x, "l1 1;");
        Due.refused(x, "player(1, 0)", () -> x.player(1, 0), UNKNOWN);
    }

    private static void instrumentBounds() {
        Doc.says(9, "what = 0 KEY, 1 N. UNKNOWN, OUTSIDE.");
        CadenzaEnds x = Due.in(FULLEST);
        Due.is("KEY of the first", x.instrument(0, 0), 1);
        Due.is("N of the first", x.instrument(0, 1), 2);
        Due.is("KEY of the fifth", x.instrument(4, 0), 11);
        Due.is("N of the fifth", x.instrument(4, 1), 99);
        Due.refused(x, "instrument(5, 0)", () -> x.instrument(5, 0), UNKNOWN);
        Due.refused(x, "instrument(0, 2)", () -> x.instrument(0, 2), OUTSIDE);
        for (int far : FAR) {
            Due.refused(x, "instrument(" + far + ", 0)", () -> x.instrument(far, 0), UNKNOWN);
            Due.refused(x, "instrument(0, " + far + ")", () -> x.instrument(0, far), OUTSIDE);
            Due.refused(x, "instrument(5, " + far + ")", () -> x.instrument(5, far), UNKNOWN);
        }
        Due.hall(x, "i1 1;");
        Due.refused(x, "instrument(1, 0)", () -> x.instrument(1, 0), UNKNOWN);
    }
}
