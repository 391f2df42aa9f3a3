/** The boundaries that promises 26 to 32 name: players, claps, keys, parts that were left out. */
public final class BoundsPlayersTest {
    private static final int NONE = CadenzaEnds.NONE;
    private static final int UNKNOWN = CadenzaEnds.UNKNOWN;
    private static final int OUTSIDE = CadenzaEnds.OUTSIDE;
    private static final int[] NO_SIDE = {-1, 2, Integer.MIN_VALUE, Integer.MAX_VALUE};
    private static final int[] NO_KEY = {-1, 12, Integer.MIN_VALUE, Integer.MAX_VALUE};
    private static final int[] NO_PART = {-1, 7, Integer.MIN_VALUE, Integer.MAX_VALUE};
    private static final String SEVEN = "p0 1 0 60;".repeat(7);

    public static void main(String[] args) {
        apartBounds();
        bestWayBounds();
        lookersBounds();
        lookersEdges();
        clapsBounds();
        lostBounds();
        lostCircle();
        helpBounds();
        helpLikeOnes();
        outBounds();
        outSets();
        outLikeliest();
        Doc.named(26, 32);
        Due.end("BoundsPlayersTest");
    }

    private static void apart(CadenzaEnds x, int set, int due) {
        x.lead(set);
        Due.is("apart() by " + set, x.apart(), due);
    }

    private static void apartBounds() {
        Doc.says(26, "APART.");
        CadenzaEnds five = Due.in("l30 0;l30 30;l30 30;l30 30;l30 30;");
        apart(five, 0, 0);
        apart(five, 1, 30);
        apart(five, 30, 0);
        apart(five, 31, 30);
        CadenzaEnds last = Due.in("l7 7;l7 7;l7 7;l7 7;l9 3;");
        apart(last, 0, 2);
        apart(last, 16, 4);
        Doc.says(Doc.TERMS, "the greatest lag less the least; 0 with fewer than two.");
        apart(new CadenzaEnds(), 0, 0);
        apart(Due.in("l30 5;"), 0, 0);
        apart(Due.in("l30 5;"), 1, 0);
        apart(Due.in("l30 5;l0 5;"), 0, 30);
        apart(Due.in("l30 5;l0 5;"), 3, 0);
        Doc.says(Doc.TERMS, "(bit 1: by the leader)");
        apart(Due.in("l30 5;l0 5;"), 1, 5);
        apart(Due.in("l30 5;l0 5;"), 2, 25);
    }

    private static void way(String text, int set, int spread) {
        CadenzaEnds x = Due.in(text);
        Due.is("bestWay(0) of '" + text + "'", x.bestWay(0), set);
        Due.is("bestWay(1) of '" + text + "'", x.bestWay(1), spread);
        Due.is("it only asks", x.told(9), 0);
    }

    private static void bestWayBounds() {
        Doc.says(27, "BEST WAY: what = 0 the SET, 1 APART then. OUTSIDE.");
        CadenzaEnds x = Due.in("l9 3;l3 9;");
        for (int what : NO_SIDE) {
            Due.refused(x, "bestWay(" + what + ")", () -> x.bestWay(what), OUTSIDE);
        }
        way("", 0, 0);
        way("l30 0;", 0, 0);
        way("l30 0;".repeat(4) + "l0 30;", 15, 0);
        way("l0 29;".repeat(4) + "l30 0;", 16, 0);
        Doc.says(Doc.TERMS, "the SET of those who go by the leader by which it is least; of like ones the least.");
        way("l9 3;l3 9;", 1, 0);
        way("l5 5;l5 5;l5 5;", 0, 0);
        way("l30 29;l0 1;", 3, 28);
        way("l2 9;l4 9;l9 9;", 3, 0);
        // it does not matter who goes by the leader now
        x.lead(3);
        Due.is("bestWay(0)", x.bestWay(0), 1);
    }

    private static void look(CadenzaEnds x, int d, int many, int set) {
        Due.is("lookers(" + d + ", 0)", x.lookers(d, 0), many);
        Due.is("lookers(" + d + ", 1)", x.lookers(d, 1), set);
    }

    private static void lookersBounds() {
        Doc.says(28, "LOOKERS (d 0 .. 30): what = 0 how many, 1 the SET. OUTSIDE.");
        CadenzaEnds x = Due.in("l0 0;l30 30;");
        look(x, 30, 0, 0);
        look(x, 29, 1, 2);
        look(x, 0, 1, 2);
        for (int d : new int[] {-1, 31, Integer.MIN_VALUE, Integer.MAX_VALUE}) {
            Due.refused(x, "lookers(" + d + ", 0)", () -> x.lookers(d, 0), OUTSIDE);
        }
        for (int what : NO_SIDE) {
            Due.refused(x, "lookers(0, " + what + ")", () -> x.lookers(0, what), OUTSIDE);
        }
    }

    private static void lookersEdges() {
        Doc.says(Doc.TERMS, "so that APART (of all, lookers too) is d or less; of like ones the least SET; NONE.");
        look(new CadenzaEnds(), 0, 0, 0);
        look(Due.in("l30 30;"), 0, 0, 0);
        CadenzaEnds alike = Due.in("l30 30;".repeat(5));
        look(alike, 0, 0, 0);
        CadenzaEnds x = Due.in("l4 4;l9 9;l9 9;");
        look(x, 5, 0, 0);
        look(x, 4, 2, 6);
        look(x, 3, 3, 7);
        look(x, 0, 3, 7);
        Doc.says(Doc.TERMS, "the others by the SET that is told");
        CadenzaEnds led = Due.in("l0 30;l0 0;l0 0;l0 0;l0 30;");
        look(led, 0, 0, 0);
        led.lead(1);
        look(led, 0, 1, 1);
        led.lead(16);
        look(led, 0, 1, 16);
        led.lead(17);
        look(led, 29, 2, 17);
        look(led, 30, 0, 0);
    }

    private static void claps(CadenzaEnds x, int c, long above, long below) {
        Due.odds("claps(" + c + ")", x.claps(c, 0), x.claps(c, 1), above, below);
    }

    private static void clapsBounds() {
        Doc.says(29, "CLAPS (c 0 .. 8). OUTSIDE.");
        CadenzaEnds x = Due.in("p2 1 0 1;".repeat(7));
        claps(x, 0, 1, 1);
        claps(x, 8, 1, 2097152);
        for (int c : new int[] {-1, 9, Integer.MIN_VALUE, Integer.MAX_VALUE}) {
            Due.refused(x, "claps(" + c + ", 0)", () -> x.claps(c, 0), OUTSIDE);
        }
        for (int part : NO_SIDE) {
            Due.refused(x, "claps(0, " + part + ")", () -> x.claps(0, part), OUTSIDE);
        }
        // 8 of 64 and 7 times 7 of 64 each
        claps(x, 1, 57L * 57 * 57 * 57 * 57 * 57 * 57, 1L << 42);
        Doc.says(Doc.TERMS, "CLAPS by c of 8 at each false end that is not left out: odds that nobody does.");
        claps(new CadenzaEnds(), 8, 1, 1);
        claps(Due.in("p0 0 0 1;p1 0 0 1;p3 0 0 1;"), 8, 1, 1);
        claps(Due.in("p2 0 0 1;"), 8, 0, 1);
        claps(Due.in("p2 0 0 1;"), 7, 1, 8);
        claps(Due.in("p2 7 0 1,2;"), 8, 7, 8);
        claps(Due.in("p2 7 0 1;p2 0 0 1;"), 8, 0, 1);
    }

    private static void lostBounds() {
        Doc.says(30, "LOST: the steps. UNKNOWN, OUTSIDE (k 0 .. 11).");
        CadenzaEnds x = Due.in(SEVEN);
        Due.is("lost(0, 0)", x.lost(0, 0), 0);
        Due.is("lost(6, 11)", x.lost(6, 11), 5);
        for (int k : NO_KEY) {
            Due.refused(x, "lost(0, " + k + ")", () -> x.lost(0, k), OUTSIDE);
            Due.refused(x, "lost(7, " + k + ")", () -> x.lost(7, k), UNKNOWN);
        }
        for (int p : NO_PART) {
            Due.refused(x, "lost(" + p + ", 0)", () -> x.lost(p, 0), UNKNOWN);
        }
    }

    private static void lostCircle() {
        Doc.says(Doc.TERMS, "steps on the circle (KEY 7 more, or less, left over by 12, is a step) from k to the PART's KEY: the fewest.");
        for (int key = 0; key < 12; key++) {
            CadenzaEnds x = Due.in("p0 0 " + key + " 1;");
            int up = key;
            int down = key;
            for (int steps = 0; steps <= 6; steps++) {
                Due.is("lost(0, " + up + ") to " + key, x.lost(0, up), steps);
                Due.is("lost(0, " + down + ") to " + key, x.lost(0, down), steps);
                up = up + 7 > 11 ? up - 5 : up + 7;
                down = down - 7 < 0 ? down + 5 : down - 7;
            }
        }
    }

    private static void helpBounds() {
        Doc.says(31, "HELP: the INSTRUMENT; NONE. UNKNOWN, OUTSIDE (k 0 .. 11).");
        CadenzaEnds x = Due.in(SEVEN + "i0 99;i0 99;i0 99;i0 99;i0 98;");
        Due.is("help(6, 11)", x.help(6, 11), 4);
        Due.is("help(0, 0)", x.help(0, 0), 4);
        for (int k : NO_KEY) {
            Due.refused(x, "help(0, " + k + ")", () -> x.help(0, k), OUTSIDE);
            Due.refused(x, "help(7, " + k + ")", () -> x.help(7, k), UNKNOWN);
        }
        for (int p : NO_PART) {
            Due.refused(x, "help(" + p + ", 0)", () -> x.help(p, 0), UNKNOWN);
        }
        Doc.says(Doc.TERMS, "NONE without INSTRUMENTS.");
        CadenzaEnds nobody = Due.in(SEVEN);
        Due.is("help(0, 0)", nobody.help(0, 0), NONE);
        Due.is("help(6, 11)", nobody.help(6, 11), NONE);
        Due.refused(nobody, "help(7, 0)", () -> nobody.help(7, 0), UNKNOWN);
        Due.refused(nobody, "help(0, 12)", () -> nobody.help(0, 12), OUTSIDE);
    }

    private static void help(String instruments, int k, int due) {
        Due.is("help(0, " + k + ") by '" + instruments + "'", Due.in("p0 0 0 1;" + instruments).help(0, k), due);
    }

    private static void helpLikeOnes() {
        Doc.says(Doc.TERMS, "N and 5 for each step from k to its KEY and 3 for each step from there to the PART's KEY is least; of like ones the least");
        help("i3 9;i3 9;", 5, 0);
        help("i3 9;i3 8;i3 8;", 5, 1);
        // from KEY 6 to 0: the INSTRUMENT in 6 costs N and 18, the one in 0 N and 30
        help("i6 12;i0 0;", 6, 0);
        help("i6 13;i0 0;", 6, 1);
        help("i0 0;i6 12;", 6, 0);
        help("i0 0;i6 11;", 6, 1);
        // from KEY 0 to 0: one in 7, a step off, costs 8 more
        help("i7 0;i0 8;", 0, 0);
        help("i7 0;i0 7;", 0, 1);
        help("i0 99;i6 51;", 0, 0);
        help("i0 99;i6 50;", 0, 1);
    }

    private static void out(CadenzaEnds x, int t, int many, int sure, int likeliest) {
        Due.is("out(" + t + ", 0)", x.out(t, 0), many);
        Due.is("out(" + t + ", 1)", x.out(t, 1), sure);
        Due.is("out(" + t + ", 2)", x.out(t, 2), likeliest);
    }

    private static void outBounds() {
        Doc.says(32, "OUT: what = 0 how many SETS, 1 SURE (a SET of PARTS), 2 LIKELIEST (NONE). OUTSIDE.");
        CadenzaEnds x = Due.in(SEVEN);
        out(x, 420, 1, 0, 0);
        out(x, 0, 1, 127, 127);
        out(x, 360, 7, 0, 1);
        out(x, 60, 7, 0, 63);
        out(x, 419, 0, 0, NONE);
        for (int t : new int[] {-1, 421, Integer.MIN_VALUE, Integer.MAX_VALUE}) {
            Due.refused(x, "out(" + t + ", 0)", () -> x.out(t, 0), OUTSIDE);
        }
        for (int what : new int[] {-1, 3, Integer.MIN_VALUE, Integer.MAX_VALUE}) {
            Due.refused(x, "out(0, " + what + ")", () -> x.out(0, what), OUTSIDE);
            Due.refused(x, "out(419, " + what + ")", () -> x.out(419, what), OUTSIDE);
        }
        out(new CadenzaEnds(), 0, 1, 0, 0);
        out(new CadenzaEnds(), 1, 0, 0, NONE);
    }

    private static void outSets() {
        Doc.says(Doc.TERMS, "by some LENGTHS of the others it ends at t; odds above 0");
        CadenzaEnds never = Due.in("p0 0 0 5;p1 0 0 5;");
        out(never, 10, 1, 0, 0);
        out(never, 5, 0, 0, NONE);
        out(never, 0, 0, 0, NONE);
        CadenzaEnds one = Due.in("p0 0 0 5;p1 1 0 5;");
        out(one, 5, 1, 2, 2);
        out(one, 10, 1, 0, 0);
        out(one, 0, 0, 0, NONE);
        Doc.says(Doc.TERMS, "SURE: those in all of them (0 without).");
        CadenzaEnds x = Due.in("p0 4 0 5;p1 4 0 5;p2 4 0 20;");
        out(x, 5, 2, 4, 5);
        out(x, 25, 2, 0, 1);
        out(x, 0, 1, 7, 7);
        out(x, 1, 0, 0, NONE);
        // a SET counts once, by however many LENGTHS it comes to t
        CadenzaEnds many = Due.in("p0 0 0 5,5,5,5;p1 1 0 1,1;");
        out(many, 5, 1, 2, 2);
        out(many, 6, 1, 0, 0);
    }

    private static void outLikeliest() {
        Doc.says(Doc.TERMS, "LIKELIEST: the SET of the greatest odds (that just these are left out and it ends at t); of like ones the least; NONE.");
        out(Due.in("p0 4 0 5;p1 4 0 5;"), 5, 2, 0, 1);
        out(Due.in("p0 3 0 5;p1 4 0 5;"), 5, 2, 0, 2);
        out(Due.in("p0 5 0 5;p1 4 0 5;"), 5, 2, 0, 1);
        // alike but for LENGTHS: the second ends at 5 by one of two only
        out(Due.in("p0 4 0 5;p1 4 0 5,9;"), 5, 2, 0, 2);
        out(Due.in("p0 4 0 5,9;p1 4 0 5;"), 5, 2, 0, 1);
        out(Due.in("p0 4 0 5,5;p1 4 0 5;"), 5, 2, 0, 1);
    }
}
