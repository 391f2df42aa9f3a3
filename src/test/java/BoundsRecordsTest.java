/** The boundaries that promises 33 to 38 name: entries, the book, tearing them up. */
public final class BoundsRecordsTest {
    private static final int NONE = CadenzaEnds.NONE;
    private static final int UNKNOWN = CadenzaEnds.UNKNOWN;
    private static final int OUTSIDE = CadenzaEnds.OUTSIDE;
    private static final int FULL = CadenzaEnds.FULL;
    private static final int LARGEST = Integer.MAX_VALUE;
    private static final int SMALLEST = Integer.MIN_VALUE;
    private static final String FIVE = "l1 1;l2 2;l3 3;l4 4;l5 5;";

    public static void main(String[] args) {
        enterBounds();
        enterFull();
        enterOneOften();
        firstInBounds();
        firstInLikeOnes();
        aheadBounds();
        writeBounds();
        writeFull();
        judgeNone();
        judgeWrong();
        judgeWrapsAround();
        tearBounds();
        Doc.named(33, 38);
        Due.end("BoundsRecordsTest");
    }

    private static void enterBounds() {
        Doc.says(33, "An ENTRY (t 0 .. 999): how many. UNKNOWN, OUTSIDE");
        CadenzaEnds x = Due.in(FIVE);
        Due.is("enter(0, 0)", x.enter(0, 0), 1);
        Due.is("enter(4, 999)", x.enter(4, 999), 2);
        for (int t : new int[] {-1, 1000, SMALLEST, LARGEST}) {
            Due.refused(x, "enter(0, " + t + ")", () -> x.enter(0, t), OUTSIDE);
            Due.refused(x, "enter(5, " + t + ")", () -> x.enter(5, t), UNKNOWN);
        }
        for (int p : new int[] {-1, 5, SMALLEST, LARGEST}) {
            Due.refused(x, "enter(" + p + ", 0)", () -> x.enter(p, 0), UNKNOWN);
        }
        Due.is("told(12)", x.told(12), 2);
    }

    private static void enterFull() {
        Doc.says(33, "FULL (12)");
        CadenzaEnds x = Due.in(FIVE);
        for (int i = 1; i <= 12; i++) {
            Due.is("enter()", x.enter(4, 500), i);
        }
        Due.refused(x, "the 13th, earlier", () -> x.enter(0, 0), FULL);
        Due.refused(x, "the 13th", () -> x.enter(4, 999), FULL);
        Due.refused(x, "the 13th, OUTSIDE", () -> x.enter(4, 1000), OUTSIDE);
        Due.refused(x, "the 13th, UNKNOWN", () -> x.enter(5, 1000), UNKNOWN);
        Due.is("firstIn(0)", x.firstIn(0), 4);
        Due.is("firstIn(1)", x.firstIn(1), 500);
        Due.is("ahead(999)", x.ahead(999), 12);
        x.tear();
        Due.is("enter() once torn", x.enter(0, 0), 1);
    }

    private static void enterOneOften() {
        Doc.says(Doc.TERMS, "ENTRIES (12 at most): a PLAYER came in at tenth t.");
        // one PLAYER, at one tenth or at several: twelve fit, though there are five PLAYERS at most
        CadenzaEnds x = Due.in("l1 1;");
        for (int i = 1; i <= 12; i++) {
            Due.is("enter(0, 7) again", x.enter(0, i % 2 == 0 ? 7 : i), i);
        }
        Due.refused(x, "the 13th", () -> x.enter(0, 7), FULL);
        Due.is("ahead(8)", x.ahead(8), 10);
    }

    private static void firstInBounds() {
        Doc.says(34, "FIRST IN: what = 0 who, 1 at which tenth; NONE. OUTSIDE.");
        CadenzaEnds x = Due.in(FIVE);
        int[] far = {-1, 2, SMALLEST, LARGEST};
        Due.is("firstIn(0) of none", x.firstIn(0), NONE);
        Due.is("firstIn(1) of none", x.firstIn(1), NONE);
        for (int what : far) {
            Due.refused(x, "firstIn(" + what + ") of none", () -> x.firstIn(what), OUTSIDE);
        }
        x.enter(4, 999);
        Due.is("firstIn(0) of one", x.firstIn(0), 4);
        Due.is("firstIn(1) of one", x.firstIn(1), 999);
        for (int what : far) {
            Due.refused(x, "firstIn(" + what + ")", () -> x.firstIn(what), OUTSIDE);
        }
    }

    private static void firstInLikeOnes() {
        Doc.says(Doc.TERMS, "FIRST IN: who was the first; of like ones the least; NONE.");
        CadenzaEnds x = Due.in(FIVE);
        x.enter(3, 10);
        x.enter(1, 10);
        x.enter(2, 10);
        Due.is("of like ones the least", x.firstIn(0), 1);
        x.enter(0, 11);
        Due.is("one who is later", x.firstIn(0), 1);
        x.enter(4, 9);
        Due.is("one who is earlier", x.firstIn(0), 4);
        Due.is("at", x.firstIn(1), 9);
        x.enter(4, 0);
        x.enter(3, 0);
        Due.is("at tenth 0", x.firstIn(0), 3);
        Due.is("at", x.firstIn(1), 0);
    }

    private static void aheadBounds() {
        Doc.says(35, "AHEAD (e 0 .. 999). OUTSIDE.");
        CadenzaEnds x = Due.in(FIVE);
        Due.is("ahead(0) of none", x.ahead(0), 0);
        Due.is("ahead(999) of none", x.ahead(999), 0);
        x.enter(0, 0);
        x.enter(1, 998);
        x.enter(2, 999);
        for (int e : new int[] {-1, 1000, SMALLEST, LARGEST}) {
            Due.refused(x, "ahead(" + e + ")", () -> x.ahead(e), OUTSIDE);
        }
        Doc.says(Doc.TERMS, "AHEAD of tenth e: how many ENTRIES are.");
        Due.is("ahead(0)", x.ahead(0), 0);
        Due.is("ahead(1)", x.ahead(1), 1);
        Due.is("ahead(998)", x.ahead(998), 1);
        Due.is("ahead(999)", x.ahead(999), 2);
    }

    private static void writeBounds() {
        Doc.says(36, "A line behind THE BOOK (LENGTH 0 .. 60): how many. UNKNOWN, OUTSIDE");
        CadenzaEnds x = Due.in("p0 0 0 1;".repeat(7));
        Due.is("write(0, 0)", x.write(0, 0), 1);
        Due.is("write(6, 60)", x.write(6, 60), 2);
        for (int length : new int[] {-1, 61, SMALLEST, LARGEST}) {
            Due.refused(x, "write(0, " + length + ")", () -> x.write(0, length), OUTSIDE);
            Due.refused(x, "write(7, " + length + ")", () -> x.write(7, length), UNKNOWN);
        }
        for (int p : new int[] {-1, 7, SMALLEST, LARGEST}) {
            Due.refused(x, "write(" + p + ", 0)", () -> x.write(p, 0), UNKNOWN);
        }
        Due.is("told(13)", x.told(13), 2);
    }

    private static void writeFull() {
        Doc.says(Doc.TERMS, "THE BOOK (20 at most) tells PART, LENGTH (0: left out), one behind the other");
        Doc.says(36, "FULL (20)");
        CadenzaEnds x = Due.in("p0 1 0 1;");
        for (int i = 1; i <= 20; i++) {
            Due.is("write()", x.write(0, i % 2), i);
        }
        Due.refused(x, "the 21st", () -> x.write(0, 1), FULL);
        Due.refused(x, "the 21st, a wrong one", () -> x.write(0, 2), FULL);
        Due.refused(x, "the 21st, OUTSIDE", () -> x.write(0, 61), OUTSIDE);
        Due.refused(x, "the 21st, UNKNOWN", () -> x.write(1, 61), UNKNOWN);
        Due.is("judge()", x.judge(), NONE);
        x.tear();
        Due.is("write() once torn", x.write(0, 1), 1);
    }

    private static void judge(String text, int due, int... lines) {
        CadenzaEnds x = Due.in(text);
        for (int i = 0; i + 1 < lines.length; i += 2) {
            x.write(lines[i], lines[i + 1]);
        }
        Due.is("judge() of " + java.util.Arrays.toString(lines) + " in '" + text + "'", x.judge(), due);
    }

    private static void judgeNone() {
        Doc.says(37, "WRONG; NONE.");
        Due.is("judge() without PARTS", new CadenzaEnds().judge(), NONE);
        judge("p0 0 0 1;", NONE);
        judge("p0 0 0 1;", NONE, 0, 1);
        judge("p0 0 0 1;", 0, 0, 2);
        CadenzaEnds x = Due.in("p0 0 0 1;");
        for (int i = 0; i < 19; i++) {
            x.write(0, 1);
        }
        x.write(0, 2);
        Due.is("the last of twenty", x.judge(), 19);
    }

    private static void judgeWrong() {
        Doc.says(Doc.TERMS, "WRONG: the first that cannot be: no such LENGTH, O 0, not the PART that is due");
        String text = "p0 0 0 1,60;p1 7 0 2,3,4,5;p3 0 0 9;";
        judge(text, NONE, 0, 1, 1, 2);
        judge(text, NONE, 0, 60, 1, 5);
        judge(text, 0, 0, 59);
        judge(text, 0, 0, 2);
        judge(text, 1, 0, 1, 1, 1);
        judge(text, 1, 0, 1, 1, 6);
        // left out: not by O 0
        judge(text, 0, 0, 0);
        judge(text, NONE, 0, 1, 1, 0);
        judge(text, 2, 0, 1, 1, 0, 2, 0);
        judge("p0 1 0 1;", NONE, 0, 0);
        // of several the first
        judge(text, 1, 0, 1, 1, 9, 2, 8);
        judge(text, 0, 2, 9, 0, 1);
        // LENGTHS that an earlier hall had
        CadenzaEnds x = Due.in("p0 0 0 1,2,3,4;");
        Due.hall(x, "");
        Due.hall(x, "p0 0 0 1;");
        x.write(0, 2);
        Due.is("judge()", x.judge(), 0);
    }

    private static void judgeWrapsAround() {
        Doc.says(Doc.TERMS, "(0 first, then rising by one, 0 again behind the last)");
        String text = "p0 0 0 1;p1 1 0 2;p3 0 0 3;";
        judge(text, 0, 1, 2);
        judge(text, 0, 2, 3);
        judge(text, 1, 0, 1, 0, 1);
        judge(text, 1, 0, 1, 2, 3);
        judge(text, 2, 0, 1, 1, 2, 1, 2);
        judge(text, 2, 0, 1, 1, 2, 0, 1);
        judge(text, NONE, 0, 1, 1, 2, 2, 3, 0, 1);
        judge(text, 3, 0, 1, 1, 2, 2, 3, 1, 2);
        judge(text, 3, 0, 1, 1, 2, 2, 3, 2, 3);
        judge(text, NONE, 0, 1, 1, 0, 2, 3, 0, 1, 1, 2, 2, 3, 0, 1);
        judge("p0 0 0 1;", NONE, 0, 1, 0, 1, 0, 1);
        int[] sevenAndOne = {0, 1, 1, 1, 2, 1, 3, 1, 4, 1, 5, 1, 6, 1, 0, 1};
        judge("p0 0 0 1;".repeat(7), NONE, sevenAndOne);
        judge("p0 0 0 1;".repeat(6), 6, 0, 1, 1, 1, 2, 1, 3, 1, 4, 1, 5, 1, 5, 1);
    }

    private static void tearBounds() {
        Doc.says(38, "No ENTRIES, THE BOOK is empty: how many both had.");
        CadenzaEnds x = Due.in("p0 1 0 1;" + FIVE);
        Due.is("tear() nothing", x.tear(), 0);
        x.enter(0, 1);
        Due.is("tear() one ENTRY", x.tear(), 1);
        x.write(0, 1);
        Due.is("tear() one line", x.tear(), 1);
        for (int i = 0; i < 25; i++) {
            x.enter(0, 3);
            x.write(0, 5);
        }
        Due.is("tear() all", x.tear(), 32);
        Due.is("told(12)", x.told(12), 0);
        Due.is("told(13)", x.told(13), 0);
        Due.is("firstIn(0)", x.firstIn(0), NONE);
        Due.is("firstIn(1)", x.firstIn(1), NONE);
        Due.is("ahead(999)", x.ahead(999), 0);
        Due.is("judge()", x.judge(), NONE);
        Due.is("tear() again", x.tear(), 0);
        // nothing else is torn
        x.lead(3);
        x.drift(4);
        x.keep(1);
        x.feed('x');
        x.tear();
        Due.is("SET, nights, letters", x.told(9) * 100 + x.told(11) * 10 + x.told(3), 341);
        Due.is("goBack(1)", x.goBack(1), 1);
    }
}
