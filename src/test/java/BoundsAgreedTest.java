/** The boundaries that promises 10 to 14 and 39 to 41 name: what is agreed, nights by draws, the seed, images. */
public final class BoundsAgreedTest {
    private static final int UNKNOWN = CadenzaEnds.UNKNOWN;
    private static final int OUTSIDE = CadenzaEnds.OUTSIDE;
    private static final int NOT = CadenzaEnds.NOT;
    private static final int LARGEST = Integer.MAX_VALUE;
    private static final int SMALLEST = Integer.MIN_VALUE;
    private static final long TIMES = 1103515245L;
    private static final long WRAP = 1L << 31;

    public static void main(String[] args) {
        costsBounds();
        signBounds();
        lagsBounds();
        leadBounds();
        driftBounds();
        drawOfEight();
        drawOfLengths();
        seedWraps();
        nightsCost();
        paidAtMost();
        seedBounds();
        keepBounds();
        goBackBounds();
        imagesKeep();
        Doc.named(10, 14);
        Doc.named(39, 41);
        Due.end("BoundsAgreedTest");
    }

    private static void costsBounds() {
        Doc.says(10, "COSTS become e, l, h (0 .. 20 each): what e was. OUTSIDE.");
        CadenzaEnds x = Due.in("p0 4 0 10,30;p3 0 0 5;");
        Due.is("costs(0, 0, 0)", x.costs(0, 0, 0), 3);
        Due.is("costs(20, 20, 20)", x.costs(20, 20, 20), 0);
        Due.is("costs(20, 0, 0)", x.costs(20, 0, 0), 20);
        Due.is("costs(0, 20, 0)", x.costs(0, 20, 0), 20);
        Due.is("costs(1, 0, 20)", x.costs(1, 0, 20), 0);
        Due.is("E, L, H", x.told(6) * 10000 + x.told(7) * 100 + x.told(8), 10020);
        for (int far : new int[] {-1, 21, SMALLEST, LARGEST}) {
            Due.refused(x, "costs(" + far + ", 5, 6)", () -> x.costs(far, 5, 6), OUTSIDE);
            Due.refused(x, "costs(5, " + far + ", 6)", () -> x.costs(5, far, 6), OUTSIDE);
            Due.refused(x, "costs(5, 6, " + far + ")", () -> x.costs(5, 6, far), OUTSIDE);
        }
    }

    private static void signBounds() {
        Doc.says(11, "A, B become a, b (0 .. 8 each): what a was. OUTSIDE.");
        CadenzaEnds x = Due.in("p0 4 0 10,30;p3 0 0 5;");
        Due.is("sign(0, 0)", x.sign(0, 0), 8);
        Due.is("sign(8, 8)", x.sign(8, 8), 0);
        Due.is("sign(0, 8)", x.sign(0, 8), 8);
        Due.is("sign(8, 0)", x.sign(8, 0), 0);
        Due.is("A, B", x.told(4) * 10 + x.told(5), 80);
        for (int far : new int[] {-1, 9, SMALLEST, LARGEST}) {
            Due.refused(x, "sign(" + far + ", 5)", () -> x.sign(far, 5), OUTSIDE);
            Due.refused(x, "sign(5, " + far + ")", () -> x.sign(5, far), OUTSIDE);
        }
    }

    private static void lagsBounds() {
        Doc.says(12, "Lags of a PLAYER become t, m (0 .. 30 each): what T was. UNKNOWN, OUTSIDE.");
        CadenzaEnds x = Due.in("l1 2;l3 4;l5 6;l7 8;l9 10;");
        for (int p = 0; p < 5; p++) {
            Due.is("lags(" + p + ", 0, 30)", x.lags(p, 0, 30), 1 + 2 * p);
            Due.is("lags(" + p + ", 30, 0)", x.lags(p, 30, 0), 0);
            Due.is("T, M", x.player(p, 0) * 100 + x.player(p, 1), 3000);
        }
        for (int far : new int[] {-1, 31, SMALLEST, LARGEST}) {
            Due.refused(x, "lags(4, " + far + ", 6)", () -> x.lags(4, far, 6), OUTSIDE);
            Due.refused(x, "lags(4, 6, " + far + ")", () -> x.lags(4, 6, far), OUTSIDE);
            Due.refused(x, "lags(5, " + far + ", 6)", () -> x.lags(5, far, 6), UNKNOWN);
            Due.refused(x, "lags(-1, 6, " + far + ")", () -> x.lags(-1, 6, far), UNKNOWN);
        }
        for (int far : new int[] {-1, 5, SMALLEST, LARGEST}) {
            Due.refused(x, "lags(" + far + ", 6, 6)", () -> x.lags(far, 6, 6), UNKNOWN);
        }
    }

    private static void leadBounds() {
        Doc.says(13, "Those of a SET go by the leader, the others by the stick: which were it. UNKNOWN.");
        for (int players = 0; players <= 5; players++) {
            CadenzaEnds x = Due.in("l1 2;".repeat(players));
            int all = (1 << players) - 1;
            Due.is("lead(" + all + ")", x.lead(all), 0);
            Due.is("lead(0)", x.lead(0), all);
            Due.is("lead(" + all + ")", x.lead(all), 0);
            for (int bit = players; bit < 32; bit++) {
                int alone = 1 << bit;
                Due.refused(x, "lead(" + alone + ")", () -> x.lead(alone), UNKNOWN);
                Due.refused(x, "lead(" + (alone | all >> 1) + ")", () -> x.lead(alone | all >> 1), UNKNOWN);
            }
            Due.refused(x, "lead(-1)", () -> x.lead(-1), UNKNOWN);
        }
    }

    private static void driftBounds() {
        Doc.says(14, "n nights BY DRAWS (1 .. 99): PAID. OUTSIDE.");
        CadenzaEnds x = Due.in("p0 4 0 10,30;p3 0 0 5;");
        Due.is("drift(1)", x.drift(1), x.told(10));
        Due.is("nights", x.told(11), 1);
        Due.is("drift(99)", x.drift(99), x.told(10));
        Due.is("nights", x.told(11), 100);
        for (int far : new int[] {0, -1, 100, SMALLEST, LARGEST}) {
            Due.refused(x, "drift(" + far + ")", () -> x.drift(far), OUTSIDE);
        }
        CadenzaEnds none = new CadenzaEnds();
        none.seed(5);
        Due.is("drift(99) without PARTS", none.drift(99), 0);
        Due.is("nights without PARTS", none.told(11), 99);
        Due.is("the seed without PARTS", none.seed(0), 5);
    }

    /** The seed ahead of the DRAW by which it becomes this. */
    private static int ahead(long becomes) {
        long inverse = 1;
        // each round doubles the bits that are right
        for (int round = 0; round < 6; round++) {
            inverse = inverse * (2 - TIMES * inverse) & WRAP - 1;
        }
        return (int) ((becomes - 12345 & WRAP - 1) * inverse & WRAP - 1);
    }

    private static long next(long seed) {
        return (seed * TIMES + 12345) % WRAP;
    }

    private static void drawOfEight() {
        Doc.says(Doc.TERMS, "PART by PART a DRAW of 8 (left out, if it is below O), else a DRAW of how many LENGTHS there are");
        for (int o = 0; o <= 7; o++) {
            CadenzaEnds x = Due.in("p0 " + o + " 0 5;");
            for (int drawn = 0; drawn < 8; drawn++) {
                for (long becomes : new long[] {drawn << 16, (drawn << 16) + 65535, (drawn + 8L << 16), (drawn + 32760L << 16) + 65535}) {
                    x.seed(ahead(becomes));
                    x.drift(1);
                    long due = drawn < o ? becomes : next(becomes);
                    Due.is("O " + o + ", the DRAW of 8 is " + drawn + ": seed", x.seed(0), due);
                }
            }
        }
    }

    private static void drawOfLengths() {
        Doc.says(Doc.TERMS, "the DRAW of n is it / 65536, left over by n");
        for (int many = 1; many <= 4; many++) {
            // what is paid tells which LENGTH was drawn
            CadenzaEnds x = Due.in("p0 0 0 " + "10,20,33,47".substring(0, 3 * many - 1) + ";c1 1 0;");
            int goes = x.bestGo();
            for (int drawn = 0; drawn < many; drawn++) {
                for (long becomes : new long[] {drawn << 16, (drawn << 16) + 65535, drawn + 32760L / many * many - many << 16}) {
                    int was = x.told(10);
                    x.seed(ahead(ahead(becomes)));
                    Due.is("drift(1)", x.drift(1) - was, Math.abs(x.length(0, drawn) - goes));
                    Due.is("seed", x.seed(0), becomes);
                }
            }
        }
    }

    private static void seedWraps() {
        Doc.says(Doc.TERMS, "each DRAW it becomes it times 1103515245 and 12345, left over by 2 to the 31");
        CadenzaEnds x = Due.in("p0 0 0 5;");
        for (long seed : new long[] {0, 1, 2, 65535, 65536, 1L << 30, WRAP - 2, WRAP - 1, ahead(0), ahead(WRAP - 1)}) {
            x.seed((int) seed);
            x.drift(1);
            Due.is("two DRAWS behind " + seed, x.seed(0), next(next(seed)));
        }
        Doc.says(Doc.TERMS, "THE SEED (0 at first");
        Due.is("seed at first", new CadenzaEnds().seed(3), 0);
    }

    private static void nightsCost() {
        Doc.says(Doc.TERMS, "THE STICK goes at BEST GO's tenth: COST of that night (E, L as in GO) is added to PAID");
        // left out by 4 of 8: ends at 10 or 50; as E is above L it goes at 50
        CadenzaEnds x = Due.in("p0 4 0 40;p3 0 0 10;c7 5 0;");
        Due.is("bestGo()", x.bestGo(), 50);
        x.seed(ahead(3 << 16));
        Due.is("a short night: L for 40", x.drift(1), 200);
        x.seed(ahead(4 << 16));
        Due.is("a night that ends as it goes", x.drift(1), 200);
        x.costs(5, 7, 0);
        Due.is("bestGo()", x.bestGo(), 10);
        x.seed(ahead(4 << 16));
        Due.is("a long night: E for 40", x.drift(1), 400);
        x.seed(ahead(3 << 16));
        Due.is("a night that ends as it goes", x.drift(1), 400);
        Due.is("nights", x.told(11), 4);
    }

    /** 512 calls never come so far; the bound stands in the class all the same. */
    private static void paidAtMost() {
        Doc.says(Doc.TERMS, "PAID (999999999 at most)");
        CadenzaEnds x = Due.in("p0 4 0 60;".repeat(7) + "c20 20 0;");
        int paid = 0;
        for (int call = 0; call < 20000 && paid < 999999999; call++) {
            int now = x.drift(99);
            Due.is("PAID never falls", now >= paid && now <= 999999999 ? 1 : 0, 1);
            paid = now;
        }
        Due.is("PAID at most", paid, 999999999);
        Due.is("PAID stays there", x.drift(99), 999999999);
        Due.is("told(10)", x.told(10), 999999999);
    }

    private static void seedBounds() {
        Doc.says(39, "THE SEED becomes v (0 .. 2147483647): what it was. OUTSIDE.");
        CadenzaEnds x = Due.in("p0 4 0 10,30;p3 0 0 5;");
        Due.is("seed(2147483647)", x.seed(LARGEST), 0);
        for (int far : new int[] {-1, -2, SMALLEST, SMALLEST + 1}) {
            Due.refused(x, "seed(" + far + ")", () -> x.seed(far), OUTSIDE);
        }
        Due.is("seed(0)", x.seed(0), LARGEST);
        Due.is("seed(1)", x.seed(1), 0);
    }

    private static void keepBounds() {
        Doc.says(40, "IMAGE i becomes what is so: 1. UNKNOWN.");
        CadenzaEnds x = Due.in("p0 4 0 10,30;l1 2;");
        for (int far : new int[] {-1, 2, SMALLEST, LARGEST}) {
            Due.refused(x, "keep(" + far + ")", () -> x.keep(far), UNKNOWN);
        }
        Due.is("none is kept by that", x.goBack(0), NOT);
        Due.is("none is kept by that", x.goBack(1), NOT);
        Due.is("keep(0)", x.keep(0), 1);
        x.sign(3, 3);
        Due.is("keep(0) again", x.keep(0), 1);
        x.sign(4, 4);
        Due.is("goBack(0)", x.goBack(0), 1);
        Due.is("the latest is kept", x.told(4), 3);
    }

    private static void goBackBounds() {
        Doc.says(41, "What is so becomes IMAGE i: 1. UNKNOWN, NOT: it was not kept.");
        CadenzaEnds x = Due.in("p0 4 0 10,30;l1 2;");
        for (int i = 0; i < 2; i++) {
            int image = i;
            Due.refused(x, "goBack(" + i + ")", () -> x.goBack(image), NOT);
        }
        for (int far : new int[] {-1, 2, SMALLEST, LARGEST}) {
            Due.refused(x, "goBack(" + far + ")", () -> x.goBack(far), UNKNOWN);
        }
        x.sign(1, 1);
        x.keep(1);
        Due.refused(x, "goBack(0), 1 is kept", () -> x.goBack(0), NOT);
        x.sign(2, 2);
        x.keep(0);
        x.sign(3, 3);
        Due.is("goBack(1)", x.goBack(1), 1);
        Due.is("A of 1", x.told(4), 1);
        Due.is("goBack(0)", x.goBack(0), 1);
        Due.is("A of 0", x.told(4), 2);
        Due.is("goBack(1) a second time", x.goBack(1), 1);
        Due.is("A of 1", x.told(4), 1);
    }

    private static void imagesKeep() {
        Doc.says(Doc.TERMS, "IMAGES 0, 1 keep COSTS, SIGN odds, PLAYERS' lags, the SET by the leader, PAID, nights, THE SEED.");
        String text = "p0 4 0 10,30;p3 0 0 5;l1 2;l3 4;l5 6;l7 8;l9 10;i1 1;";
        for (int image = 0; image < 2; image++) {
            CadenzaEnds x = Due.in(text);
            x.seed(9);
            x.drift(7);
            x.keep(image);
            long was = State.of(x).hashCode();
            x.costs(20, 19, 18);
            x.sign(1, 2);
            for (int p = 0; p < 5; p++) {
                x.lags(p, 30, 29 - p);
            }
            x.lead(31);
            x.drift(50);
            x.seed(3);
            Due.is("goBack", x.goBack(image), 1);
            Due.is("all is as it was kept", State.of(x).hashCode(), was);
            // what an image does not keep stays as it is now
            x.enter(4, 7);
            x.write(1, 5);
            x.feed('x');
            x.goBack(image);
            Due.is("ENTRIES, BOOK, TEXT stay", x.told(12) * 100 + x.told(13) * 10 + x.told(3), 111);
            // what has been changed since does not reach the image
            x.lags(4, 0, 0);
            x.goBack(image);
            Due.is("T", x.player(4, 0), 9);
        }
    }
}
