import java.util.Random;

/** Promises 10 to 14 and 39 to 41: what is agreed, nights by draws, images. */
public final class AgreedTest {
    private static final int UNKNOWN = CadenzaEnds.UNKNOWN;
    private static final int OUTSIDE = CadenzaEnds.OUTSIDE;

    public static void main(String[] args) {
        costsAndSigns();
        lagsAndLead();
        seeds();
        nights();
        images();
        Due.end("AgreedTest");
    }

    private static void costsAndSigns() {
        CadenzaEnds x = Due.in("p0 4 0 10;p3 0 0 5;");
        Due.is("costs", x.costs(20, 0, 20), 3);
        Due.is("costs", x.costs(0, 20, 0), 20);
        int[][] wrong = {{-1, 0, 0}, {21, 0, 0}, {0, -1, 0}, {0, 21, 0}, {0, 0, -1}, {0, 0, 21}};
        for (int[] c : wrong) {
            Due.is("costs", x.costs(c[0], c[1], c[2]), OUTSIDE);
        }
        Due.is("costs stay", x.told(6) * 10000 + x.told(7) * 100 + x.told(8), 2000);
        Due.odds("go by costs", x.go(15, 0), x.go(15, 1), 100, 1);
        Due.is("sign", x.sign(0, 8), 8);
        Due.is("sign", x.sign(3, 4), 0);
        Due.is("sign", x.sign(-1, 0), OUTSIDE);
        Due.is("sign", x.sign(9, 0), OUTSIDE);
        Due.is("sign", x.sign(0, -1), OUTSIDE);
        Due.is("sign", x.sign(0, 9), OUTSIDE);
        Due.is("sign stays", x.told(4) * 10 + x.told(5), 34);
    }

    private static void lagsAndLead() {
        CadenzaEnds x = Due.in("l1 2;l3 4;");
        Due.is("lags", x.lags(1, 30, 0), 3);
        Due.is("lags", x.lags(1, 0, 30), 30);
        Due.is("player", x.player(1, 0), 0);
        Due.is("player", x.player(1, 1), 30);
        Due.is("lags 2", x.lags(2, 99, 99), UNKNOWN);
        Due.is("lags -1", x.lags(-1, 0, 0), UNKNOWN);
        Due.is("lags t", x.lags(0, 31, 0), OUTSIDE);
        Due.is("lags t", x.lags(0, -1, 0), OUTSIDE);
        Due.is("lags m", x.lags(0, 0, 31), OUTSIDE);
        Due.is("lags m", x.lags(0, 0, -1), OUTSIDE);
        Due.is("player stays", x.player(0, 0) * 10 + x.player(0, 1), 12);
        Due.is("lead", x.lead(3), 0);
        Due.is("lead", x.lead(4), UNKNOWN);
        Due.is("lead", x.lead(7), UNKNOWN);
        Due.is("lead", x.lead(-1), UNKNOWN);
        Due.is("lead", x.lead(Integer.MIN_VALUE), UNKNOWN);
        Due.is("lead", x.lead(2), 3);
        Due.is("told 9", x.told(9), 2);
        CadenzaEnds none = new CadenzaEnds();
        Due.is("lead of none", none.lead(0), 0);
        Due.is("lead of none", none.lead(1), UNKNOWN);
        CadenzaEnds five = Due.in("l1 2;l1 2;l1 2;l1 2;l1 2;");
        Due.is("lead of five", five.lead(31), 0);
        Due.is("lead of five", five.lead(32), UNKNOWN);
        Due.is("lead of five", five.lead(0), 31);
    }

    private static void seeds() {
        CadenzaEnds x = new CadenzaEnds();
        Due.is("seed", x.seed(Integer.MAX_VALUE), 0);
        Due.is("seed", x.seed(-1), OUTSIDE);
        Due.is("seed", x.seed(Integer.MIN_VALUE), OUTSIDE);
        Due.is("seed", x.seed(0), Integer.MAX_VALUE);
        Due.is("drift without parts", x.drift(99), 0);
        Due.is("no draws without parts", x.seed(0), 0);
        CadenzaEnds y = Due.in("p0 0 0 7;");
        y.drift(1);
        // a draw of 8 and a draw of 1, though neither leaves a choice
        long once = 12345L;
        Due.is("two draws", y.seed(0), (once * 1103515245L + 12345L) % 2147483648L);
        CadenzaEnds z = Due.in("p0 7 0 7;");
        z.drift(1);
        Due.is("one draw: 12345 / 65536 is 0, left out", z.seed(0), 12345);
    }

    private static void nights() {
        Random random = new Random(7);
        int[] out = {3, 0, 7, 1, 0};
        int[][] lengths = {{10, 20, 30}, {4}, {60, 1, 2, 3}, {8, 9}, {30, 40, 50}};
        CadenzaEnds x = Due.in("p0 3 0 10,20,30;p1 0 0 4;p2 7 0 60,1,2,3;p0 1 0 8,9;p3 0 0 30,40,50;");
        long seed = 0;
        long paid = 0;
        int nights = 0;
        for (int round = 0; round < 80; round++) {
            int e = random.nextInt(21);
            int l = random.nextInt(21);
            x.costs(e, l, 0);
            if (round % 5 == 4) {
                seed = random.nextInt() & Integer.MAX_VALUE;
                x.seed((int) seed);
            }
            int n = 1 + random.nextInt(99);
            int goes = x.bestGo();
            for (int night = 0; night < n; night++) {
                int end = 0;
                for (int p = 0; p < out.length; p++) {
                    seed = (seed * 1103515245L + 12345L) % 2147483648L;
                    if (seed / 65536 % 8 >= out[p]) {
                        seed = (seed * 1103515245L + 12345L) % 2147483648L;
                        end += lengths[p][(int) (seed / 65536 % lengths[p].length)];
                    }
                }
                paid += end > goes ? (long) e * (end - goes) : (long) l * (goes - end);
                nights++;
            }
            Due.is("drift", x.drift(n), paid);
            Due.is("told 10", x.told(10), paid);
            Due.is("told 11", x.told(11), nights);
        }
        Due.is("drift 0", x.drift(0), OUTSIDE);
        Due.is("drift 100", x.drift(100), OUTSIDE);
        Due.is("drift -1", x.drift(-1), OUTSIDE);
        Due.is("told 11", x.told(11), nights);
        Due.is("seed", x.seed(0), seed);
    }

    private static void images() {
        CadenzaEnds x = Due.in("p0 4 0 10,30;p3 0 0 5;l1 2;l3 4;s7 1;c6 5 4;");
        Due.is("goBack", x.goBack(0), CadenzaEnds.NOT);
        Due.is("goBack", x.goBack(2), UNKNOWN);
        Due.is("goBack", x.goBack(-1), UNKNOWN);
        Due.is("keep", x.keep(2), UNKNOWN);
        Due.is("keep", x.keep(-1), UNKNOWN);
        Due.is("keep", x.keep(0), 1);
        Due.is("goBack 1", x.goBack(1), CadenzaEnds.NOT);
        x.costs(1, 2, 3);
        x.sign(4, 5);
        x.lags(0, 10, 11);
        x.lags(1, 12, 13);
        x.lead(2);
        int paid = x.drift(9);
        int seed = x.seed(0);
        x.seed(seed);
        Due.is("keep 1", x.keep(1), 1);
        x.enter(1, 9);
        x.write(0, 10);
        Due.feed(x, "abc");
        for (int time = 0; time < 2; time++) {
            Due.is("goBack 0", x.goBack(0), 1);
            check(x, new int[] {6, 5, 4, 7, 1, 1, 2, 3, 4, 0, 0, 0, 0});
            Due.is("records stay", x.told(12) * 100 + x.told(13) * 10 + x.told(3), 113);
            Due.is("goBack 1", x.goBack(1), 1);
            check(x, new int[] {1, 2, 3, 4, 5, 10, 11, 12, 13, 2, paid, 9, seed});
            x.lags(1, 0, 0);
            x.drift(2);
        }
        Due.is("keep over", x.keep(0), 1);
        x.goBack(1);
        x.goBack(0);
        Due.is("kept anew", x.told(11), 11);
    }

    private static void check(CadenzaEnds x, int[] due) {
        int[] got = {x.told(6), x.told(7), x.told(8), x.told(4), x.told(5), x.player(0, 0), x.player(0, 1),
            x.player(1, 0), x.player(1, 1), x.told(9), x.told(10), x.told(11), x.seed(0)};
        x.seed(got[12]);
        for (int i = 0; i < due.length; i++) {
            Due.is("image " + i, got[i], due[i]);
        }
    }
}
