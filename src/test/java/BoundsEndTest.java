import java.util.function.LongSupplier;

/** The boundaries that promises 15 to 25 name: the end, what this trill is, when to go, when to lift. */
public final class BoundsEndTest {
    private static final int UNKNOWN = CadenzaEnds.UNKNOWN;
    private static final int OUTSIDE = CadenzaEnds.OUTSIDE;
    private static final int NOT = CadenzaEnds.NOT;
    private static final int[] NO_TENTH = {-1, 421, Integer.MIN_VALUE, Integer.MAX_VALUE};
    private static final int[] NO_SIDE = {-1, 2, Integer.MIN_VALUE, Integer.MAX_VALUE};
    private static final int[] NO_REACH = {-1, 61, Integer.MIN_VALUE, Integer.MAX_VALUE};
    private static final String LONGEST = "p0 0 0 60;".repeat(6) + "p3 0 0 60;";
    /** Ends at 10 by 1 of 4, at 30 by 3 of 4. */
    private static final String SOME = "p2 2 0 20,20;p3 0 0 10;";

    public static void main(String[] args) {
        cadenza();
        endsBounds();
        sides();
        byBounds();
        meanBounds();
        edgeBounds();
        startsBounds();
        isItBounds();
        isItLasts();
        isItShows();
        isItSorts();
        isItAll();
        isItNone();
        goBounds();
        bestGoLikeOnes();
        liftBounds();
        liftEdges();
        bestLiftBounds();
        savedBounds();
        Doc.named(15, 25);
        Due.end("BoundsEndTest");
    }

    private static void odds(String call, LongSupplier above, LongSupplier below, long wantAbove, long wantBelow) {
        Due.odds(call, above.getAsLong(), below.getAsLong(), wantAbove, wantBelow);
    }

    private static void ends(CadenzaEnds x, int t, long above, long below) {
        odds("ends(" + t + ")", () -> x.ends(t, 0), () -> x.ends(t, 1), above, below);
    }

    private static void by(CadenzaEnds x, int t, long above, long below) {
        odds("by(" + t + ")", () -> x.by(t, 0), () -> x.by(t, 1), above, below);
    }

    private static void starts(CadenzaEnds x, int p, int t, long above, long below) {
        odds("starts(" + p + ", " + t + ")", () -> x.starts(p, t, 0), () -> x.starts(p, t, 1), above, below);
    }

    private static void isIt(CadenzaEnds x, int t, int more, int shown, long... due) {
        String call = "isIt(" + t + ", " + more + ", " + shown + ")";
        if (due.length == 2) {
            odds(call, () -> x.isIt(t, more, shown, 0), () -> x.isIt(t, more, shown, 1), due[0], due[1]);
        } else {
            Due.refused(x, call, () -> x.isIt(t, more, shown, 0), NOT);
            Due.refused(x, call, () -> x.isIt(t, more, shown, 1), NOT);
        }
    }

    private static void go(CadenzaEnds x, int g, long above, long below) {
        odds("go(" + g + ")", () -> x.go(g, 0), () -> x.go(g, 1), above, below);
    }

    private static void lift(CadenzaEnds x, int a, int r, long above, long below) {
        odds("lift(" + a + ", " + r + ")", () -> x.lift(a, r, 0), () -> x.lift(a, r, 1), above, below);
    }

    private static void cadenza() {
        Doc.says(Doc.TERMS, "at the tenth that all LENGTHS of those that were not left out come to (PARTS need not have a trill)");
        CadenzaEnds all = Due.in("p0 7 0 60;p1 7 0 60;p2 7 0 60;");
        ends(all, 0, 343, 512);
        ends(all, 180, 1, 512);
        CadenzaEnds one = Due.in("p2 0 0 1;");
        ends(one, 1, 1, 1);
        ends(one, 0, 0, 1);
        Doc.says(Doc.TERMS, "8 less O, or O, of 8; 1 of as many LENGTHS");
        CadenzaEnds twice = Due.in("p0 1 0 7,7,7,9;");
        ends(twice, 0, 1, 8);
        ends(twice, 7, 21, 32);
        ends(twice, 9, 7, 32);
    }

    private static void endsBounds() {
        Doc.says(15, "ENDS. OUTSIDE.");
        CadenzaEnds x = Due.in(LONGEST);
        ends(x, 420, 1, 1);
        ends(x, 419, 0, 1);
        ends(x, 0, 0, 1);
        for (int t : NO_TENTH) {
            Due.refused(x, "ends(" + t + ", 0)", () -> x.ends(t, 0), OUTSIDE);
        }
        for (int part : NO_SIDE) {
            Due.refused(x, "ends(0, " + part + ")", () -> x.ends(0, part), OUTSIDE);
        }
        Doc.says(Doc.TERMS, "Odds, means are parts in lowest terms (above, below; 0 of 1 for none).");
        CadenzaEnds some = Due.in(SOME);
        ends(some, 10, 1, 4);
        ends(some, 30, 3, 4);
        ends(some, 11, 0, 1);
    }

    private static void sides() {
        Doc.says(Doc.TERMS, "the end (t 0 .. 420; part 0 above, 1 below)");
        CadenzaEnds x = Due.in("p2 3 0 60,60,60,1;".repeat(6) + "p3 0 0 60;");
        for (int t : new int[] {0, 420}) {
            Due.is("ends above, at " + t, x.ends(t, 0), t == 0 ? 0 : 11390625);
            Due.is("ends below, at " + t, x.ends(t, 1), t == 0 ? 1 : 1073741824);
            Due.is("by above, at " + t, x.by(t, 0), t == 0 ? 0 : 1);
            Due.is("by below, at " + t, x.by(t, 1), 1);
            Due.is("starts above, at " + t, x.starts(0, t, 0), t == 0 ? 5 : 0);
            Due.is("starts below, at " + t, x.starts(0, t, 1), t == 0 ? 8 : 1);
        }
    }

    private static void byBounds() {
        Doc.says(16, "BY. OUTSIDE.");
        CadenzaEnds x = Due.in(LONGEST);
        by(x, 420, 1, 1);
        by(x, 419, 0, 1);
        by(x, 0, 0, 1);
        for (int t : NO_TENTH) {
            Due.refused(x, "by(" + t + ", 0)", () -> x.by(t, 0), OUTSIDE);
        }
        for (int part : NO_SIDE) {
            Due.refused(x, "by(0, " + part + ")", () -> x.by(0, part), OUTSIDE);
        }
        Doc.says(Doc.TERMS, "BY: at t or ahead of it.");
        CadenzaEnds some = Due.in(SOME);
        by(some, 9, 0, 1);
        by(some, 10, 1, 4);
        by(some, 29, 1, 4);
        by(some, 30, 1, 1);
        by(some, 420, 1, 1);
        by(Due.in("p0 3 0 5;"), 0, 3, 8);
    }

    private static void meanBounds() {
        Doc.says(17, "MEAN. OUTSIDE.");
        CadenzaEnds x = Due.in(LONGEST);
        Due.odds("mean of the longest", x.mean(0), x.mean(1), 420, 1);
        for (int part : NO_SIDE) {
            Due.refused(x, "mean(" + part + ")", () -> x.mean(part), OUTSIDE);
        }
        CadenzaEnds none = new CadenzaEnds();
        Due.odds("mean of none", none.mean(0), none.mean(1), 0, 1);
        CadenzaEnds least = Due.in("p0 7 0 1;");
        Due.odds("mean of the least", least.mean(0), least.mean(1), 1, 8);
    }

    private static void edgeBounds() {
        Doc.says(18, "what = 0 FIRST, 1 LAST. OUTSIDE.");
        CadenzaEnds x = Due.in(LONGEST);
        Due.is("FIRST", x.edge(0), 420);
        Due.is("LAST", x.edge(1), 420);
        for (int what : NO_SIDE) {
            Due.refused(x, "edge(" + what + ")", () -> x.edge(what), OUTSIDE);
        }
        Doc.says(Doc.TERMS, "FIRST, LAST tenth at which it may.");
        CadenzaEnds mostly = Due.in("p0 7 0 60;".repeat(7));
        Due.is("FIRST, all left out", mostly.edge(0), 0);
        Due.is("LAST, by 1 of 2097152", mostly.edge(1), 420);
        CadenzaEnds hardly = Due.in("p0 1 0 60,59;p3 0 0 7,60;");
        Due.is("FIRST, by 1 of 16", hardly.edge(0), 7);
        Due.is("LAST", hardly.edge(1), 120);
    }

    private static void startsBounds() {
        Doc.says(19, "STARTS. UNKNOWN, OUTSIDE.");
        CadenzaEnds x = Due.in(LONGEST);
        for (int p = 0; p < 7; p++) {
            starts(x, p, 60 * p, 1, 1);
            starts(x, p, 60 * p + 1, 0, 1);
        }
        starts(x, 6, 420, 0, 1);
        for (int t : NO_TENTH) {
            Due.refused(x, "starts(0, " + t + ", 0)", () -> x.starts(0, t, 0), OUTSIDE);
            Due.refused(x, "starts(7, " + t + ", 0)", () -> x.starts(7, t, 0), UNKNOWN);
        }
        for (int part : NO_SIDE) {
            Due.refused(x, "starts(0, 0, " + part + ")", () -> x.starts(0, 0, part), OUTSIDE);
            Due.refused(x, "starts(-1, 0, " + part + ")", () -> x.starts(-1, 0, part), UNKNOWN);
        }
        for (int p : new int[] {-1, 7, Integer.MIN_VALUE, Integer.MAX_VALUE}) {
            Due.refused(x, "starts(" + p + ", 0, 0)", () -> x.starts(p, 0, 0), UNKNOWN);
        }
        Doc.says(Doc.TERMS, "odds that it is not left out and begins at tenth t");
        CadenzaEnds some = Due.in("p0 7 0 5;p1 6 0 5;");
        starts(some, 0, 0, 1, 8);
        starts(some, 1, 0, 7, 32);
        starts(some, 1, 5, 1, 32);
        starts(some, 1, 4, 0, 1);
    }

    private static void isItBounds() {
        Doc.says(20, "IS IT (shown 0 .. 2). OUTSIDE, NOT: none can.");
        CadenzaEnds x = Due.in(SOME);
        for (int t : NO_TENTH) {
            Due.refused(x, "isIt(" + t + ", 0, 2, 0)", () -> x.isIt(t, 0, 2, 0), OUTSIDE);
        }
        for (int more : NO_REACH) {
            Due.refused(x, "isIt(0, " + more + ", 2, 0)", () -> x.isIt(0, more, 2, 0), OUTSIDE);
        }
        for (int shown : new int[] {-1, 3, Integer.MIN_VALUE, Integer.MAX_VALUE}) {
            Due.refused(x, "isIt(0, 0, " + shown + ", 0)", () -> x.isIt(0, 0, shown, 0), OUTSIDE);
            Due.refused(x, "isIt(1, 0, " + shown + ", 0), where none can", () -> x.isIt(1, 0, shown, 0), OUTSIDE);
        }
        for (int part : NO_SIDE) {
            Due.refused(x, "isIt(0, 0, 2, " + part + ")", () -> x.isIt(0, 0, 2, part), OUTSIDE);
            Due.refused(x, "isIt(1, 0, 2, " + part + "), where none can", () -> x.isIt(1, 0, 2, part), OUTSIDE);
        }
        Doc.says(Doc.TERMS, "a PART of SORT 2 or 3 began at tenth t (0 .. 420)");
        isIt(x, 420, 0, 2);
        isIt(Due.in(LONGEST), 360, 0, 2, 1, 1);
        isIt(Due.in(LONGEST), 0, 0, 2);
        isIt(Due.in(LONGEST), 420, 0, 2);
    }

    private static void isItLasts() {
        Doc.says(Doc.TERMS, "lasts more than x tenths (0 .. 60)");
        // at 0: the false end by 3 of 4, of 20; the trill by 1 of 4, of 10
        CadenzaEnds x = Due.in(SOME);
        isIt(x, 0, 0, 2, 1, 4);
        isIt(x, 0, 9, 2, 1, 4);
        isIt(x, 0, 10, 2, 0, 1);
        isIt(x, 0, 19, 2, 0, 1);
        isIt(x, 0, 20, 2);
        isIt(x, 20, 9, 2, 1, 1);
        isIt(x, 20, 10, 2);
        // at 0: 3 of 8 for the false end, 5 of 8 for the trill, by as many of four as last so long
        CadenzaEnds four = Due.in("p2 5 0 10,20,30,40;p3 0 0 9,19,29,39;");
        isIt(four, 0, 8, 2, 5, 8);
        isIt(four, 0, 9, 2, 5, 9);
        isIt(four, 0, 38, 2, 5, 8);
        isIt(four, 0, 39, 2, 0, 1);
        isIt(four, 0, 40, 2);
        CadenzaEnds longest = Due.in("p3 0 0 60;");
        isIt(longest, 0, 59, 2, 1, 1);
        isIt(longest, 0, 60, 2);
        CadenzaEnds shortest = Due.in("p3 0 0 1;");
        isIt(shortest, 0, 0, 2, 1, 1);
        isIt(shortest, 0, 1, 2);
    }

    private static void isItShows() {
        Doc.says(Doc.TERMS, "a SIGN was SHOWN (1), NOT (0), or that is not known (2)");
        CadenzaEnds x = Due.in(SOME + "s8 0;");
        isIt(x, 0, 0, 1, 1, 1);
        isIt(x, 0, 0, 0, 0, 1);
        isIt(x, 0, 0, 2, 1, 4);
        x.sign(0, 8);
        isIt(x, 0, 0, 1, 0, 1);
        isIt(x, 0, 0, 0, 1, 1);
        isIt(x, 0, 0, 2, 1, 4);
        x.sign(8, 8);
        isIt(x, 0, 0, 1, 1, 4);
        isIt(x, 0, 0, 0);
        isIt(x, 0, 0, 2, 1, 4);
        x.sign(0, 0);
        isIt(x, 0, 0, 1);
        isIt(x, 0, 0, 0, 1, 4);
        // shown: 1 of 4 by 7 against 3 of 4 by 1; not shown: by 1 against by 7
        x.sign(7, 1);
        isIt(x, 0, 0, 1, 7, 10);
        isIt(x, 0, 0, 0, 1, 22);
    }

    private static void isItSorts() {
        Doc.says(Doc.TERMS, "SHOWN, NOT SHOWN: at SORTS 2, 3 by A, B, at their beginning; at others nothing is.");
        for (int sort = 0; sort <= 3; sort++) {
            CadenzaEnds x = Due.in("p" + sort + " 0 0 9;s4 4;");
            for (int shown = 0; shown <= 2; shown++) {
                int seen = shown;
                long due = sort < 2 ? NOT : sort == 3 ? 1 : 0;
                Due.refused(x, "isIt() of SORT " + sort, () -> x.isIt(0, 8, seen, 0), due);
                Due.refused(x, "isIt() of SORT " + sort + " not at its beginning", () -> x.isIt(1, 7, seen, 0), NOT);
            }
        }
    }

    private static void isItAll() {
        Doc.says(Doc.TERMS, "odds that it is of SORT 3 (of all that begin so, with what they show)");
        CadenzaEnds x = Due.in("p2 4 0 10;p2 4 0 10;p3 0 0 10;");
        // at 0: false ends by 1 of 2 and 1 of 4, the trill by 1 of 4; at 10: by 1 of 4 the second, by 1 of 2 the trill
        isIt(x, 0, 0, 2, 1, 4);
        isIt(x, 10, 0, 2, 2, 3);
        isIt(x, 20, 0, 2, 1, 1);
        x.sign(2, 1);
        isIt(x, 0, 0, 1, 2, 5);
        isIt(x, 10, 0, 1, 4, 5);
        isIt(x, 0, 0, 0, 2, 9);
    }

    private static void isItNone() {
        Doc.says(Doc.TERMS, "NOT: none can.");
        isIt(new CadenzaEnds(), 0, 0, 2);
        isIt(Due.in("p0 0 0 5;p1 0 0 5;"), 0, 0, 2);
        isIt(Due.in("p0 0 0 5;p1 0 0 5;"), 5, 0, 2);
        isIt(Due.in("p0 0 0 5;p3 0 0 5;"), 0, 0, 2);
        isIt(Due.in("p0 0 0 5;p3 0 0 5;"), 5, 0, 2, 1, 1);
        isIt(Due.in("p0 0 0 5;p2 0 0 5;"), 5, 0, 2, 0, 1);
        isIt(Due.in("p0 0 0 5;p2 0 0 5;s8 0;"), 5, 0, 1);
        isIt(Due.in("p0 0 0 5;p2 7 0 5;s8 0;"), 5, 0, 0, 0, 1);
        isIt(Due.in("p0 0 0 5;p3 0 0 5;s8 0;"), 5, 0, 0);
    }

    private static void goBounds() {
        Doc.says(21, "GO: the mean. OUTSIDE (g 0 .. 420).");
        CadenzaEnds x = Due.in(LONGEST + "c20 20 20;");
        go(x, 0, 8400, 1);
        go(x, 419, 20, 1);
        go(x, 420, 0, 1);
        for (int g : NO_TENTH) {
            Due.refused(x, "go(" + g + ", 0)", () -> x.go(g, 0), OUTSIDE);
        }
        for (int part : NO_SIDE) {
            Due.refused(x, "go(0, " + part + ")", () -> x.go(0, part), OUTSIDE);
        }
        CadenzaEnds none = new CadenzaEnds();
        go(none, 0, 0, 1);
        go(none, 420, 840, 1);
        Doc.says(Doc.TERMS, "E for each tenth that it ends behind g, L for each that it ended ahead of it: the mean.");
        CadenzaEnds one = Due.in("p0 0 0 9;c5 7 20;");
        go(one, 8, 5, 1);
        go(one, 9, 0, 1);
        go(one, 10, 7, 1);
        CadenzaEnds some = Due.in(SOME + "c5 7 20;");
        go(some, 11, 73, 1);
        go(some, 30, 35, 1);
        go(some, 31, 42, 1);
        go(Due.in("p0 7 0 1;c1 0 0;"), 0, 1, 8);
    }

    private static void bestGo(CadenzaEnds x, int due) {
        Due.is("bestGo()", x.bestGo(), due);
    }

    private static void bestGoLikeOnes() {
        Doc.says(22, "BEST GO: the tenth.");
        bestGo(new CadenzaEnds(), 0);
        bestGo(Due.in(LONGEST), 420);
        bestGo(Due.in("p0 0 0 1;"), 1);
        Doc.says(Doc.TERMS, "BEST GO: the tenth of the least; of like ones the least.");
        CadenzaEnds x = Due.in("p0 4 0 20;p3 0 0 10;c5 5 0;");
        bestGo(x, 10);
        x.costs(5, 4, 0);
        bestGo(x, 30);
        x.costs(4, 5, 0);
        bestGo(x, 10);
        x.costs(0, 0, 20);
        bestGo(x, 0);
        x.costs(0, 20, 20);
        bestGo(x, 0);
        x.costs(20, 0, 20);
        bestGo(x, 30);
    }

    private static void liftBounds() {
        Doc.says(23, "LIFT: the mean. OUTSIDE (a 0 .. 420, r).");
        CadenzaEnds x = Due.in(LONGEST + "c0 20 20;");
        lift(x, 0, 0, 8400, 1);
        lift(x, 420, 0, 0, 1);
        lift(x, 420, 60, 1200, 1);
        lift(x, 360, 60, 1200, 1);
        for (int a : NO_TENTH) {
            Due.refused(x, "lift(" + a + ", 0, 0)", () -> x.lift(a, 0, 0), OUTSIDE);
        }
        for (int r : NO_REACH) {
            Due.refused(x, "lift(0, " + r + ", 0)", () -> x.lift(0, r, 0), OUTSIDE);
        }
        for (int part : NO_SIDE) {
            Due.refused(x, "lift(0, 0, " + part + ")", () -> x.lift(0, 0, part), OUTSIDE);
        }
        CadenzaEnds none = new CadenzaEnds();
        lift(none, 0, 0, 0, 1);
        lift(none, 420, 60, 960, 1);
    }

    private static void liftEdges() {
        Doc.says(Doc.TERMS, "H for each tenth from a to the end (if it is behind a)");
        CadenzaEnds heavy = Due.in("p0 0 0 9;c20 0 3;");
        lift(heavy, 0, 60, 27, 1);
        lift(heavy, 8, 60, 3, 1);
        lift(heavy, 9, 60, 0, 1);
        lift(heavy, 10, 60, 0, 1);
        Doc.says(Doc.TERMS, "L for each tenth that it ends ahead of a and r (r 0 .. 60 tenths that an arm needs): the mean.");
        CadenzaEnds late = Due.in("p0 0 0 9;c20 5 0;");
        lift(late, 9, 0, 0, 1);
        lift(late, 10, 0, 5, 1);
        lift(late, 5, 4, 0, 1);
        lift(late, 5, 5, 5, 1);
        lift(late, 0, 9, 0, 1);
        lift(late, 0, 10, 5, 1);
        lift(late, 0, 60, 255, 1);
        // heavy and late at once: 4 tenths of the arm, 1 too late
        lift(Due.in("p0 0 0 9;c20 5 3;"), 5, 5, 17, 1);
    }

    private static void bestLiftBounds() {
        Doc.says(24, "BEST LIFT: the tenth. OUTSIDE.");
        CadenzaEnds x = Due.in(LONGEST + "c0 20 1;");
        Due.is("bestLift(0)", x.bestLift(0), 420);
        Due.is("bestLift(60)", x.bestLift(60), 360);
        for (int r : NO_REACH) {
            Due.refused(x, "bestLift(" + r + ")", () -> x.bestLift(r), OUTSIDE);
        }
        Due.is("bestLift(60) without PARTS", new CadenzaEnds().bestLift(60), 0);
        Doc.says(Doc.TERMS, "BEST LIFT of r: likewise.");
        // from 360 to 420 each tenth costs the arm and lateness alike: of like ones the least
        x.costs(0, 7, 7);
        Due.is("like ones", x.bestLift(60), 360);
        x.costs(0, 6, 7);
        Due.is("the arm costs more", x.bestLift(60), 420);
        x.costs(0, 0, 0);
        Due.is("nothing costs", x.bestLift(60), 0);
        x.costs(0, 0, 1);
        Due.is("only the arm costs", x.bestLift(60), 420);
        x.costs(20, 1, 0);
        Due.is("only lateness costs", x.bestLift(0), 0);
    }

    private static void saved(CadenzaEnds x, int q, long above, long below) {
        odds("saved(" + q + ")", () -> x.saved(q, 0), () -> x.saved(q, 1), above, below);
    }

    private static void savedBounds() {
        Doc.says(25, "SIGN AGREED (q 0 .. 8). OUTSIDE.");
        // BEST GO is 30, at 5 * 20 by 1 of 4
        CadenzaEnds x = Due.in(SOME + "c5 5 0;");
        Due.is("bestGo()", x.bestGo(), 30);
        saved(x, 0, 0, 1);
        saved(x, 1, 25, 8);
        saved(x, 7, 175, 8);
        saved(x, 8, 25, 1);
        for (int q : new int[] {-1, 9, Integer.MIN_VALUE, Integer.MAX_VALUE}) {
            Due.refused(x, "saved(" + q + ", 0)", () -> x.saved(q, 0), OUTSIDE);
        }
        for (int part : NO_SIDE) {
            Due.refused(x, "saved(0, " + part + ")", () -> x.saved(0, part), OUTSIDE);
        }
        Doc.says(Doc.TERMS, "the mean of BEST GO's COST times q / 8");
        saved(new CadenzaEnds(), 8, 0, 1);
        saved(Due.in(LONGEST), 8, 0, 1);
        saved(Due.in("p0 7 0 1;c1 1 1;"), 1, 1, 64);
    }
}
