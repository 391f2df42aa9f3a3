import java.util.Random;

/** Promises 26 to 28: by hand, and many lags against lists of all ways. */
public final class PlayersTest {
    private static final int OUTSIDE = CadenzaEnds.OUTSIDE;

    public static void main(String[] args) {
        byHand();
        many();
        Due.end("PlayersTest");
    }

    private static void byHand() {
        CadenzaEnds none = new CadenzaEnds();
        Due.is("apart of none", none.apart(), 0);
        Due.is("bestWay of none", none.bestWay(0), 0);
        Due.is("bestWay of none", none.bestWay(1), 0);
        Due.is("lookers of none", none.lookers(0, 0), 0);
        Due.is("lookers of none", none.lookers(0, 1), 0);
        CadenzaEnds one = Due.in("l30 5;");
        Due.is("apart of one", one.apart(), 0);
        Due.is("bestWay of one", one.bestWay(0), 0);
        Due.is("bestWay of one", one.bestWay(1), 0);
        Due.is("lookers of one", one.lookers(0, 1), 0);
        CadenzaEnds x = Due.in("l4 2;l9 3;l0 12;");
        Due.is("apart", x.apart(), 9);
        x.lead(4);
        Due.is("apart", x.apart(), 8);
        Due.is("bestWay", x.bestWay(0), 3);
        Due.is("bestWay", x.bestWay(1), 3);
        Due.is("lookers 8", x.lookers(8, 0), 0);
        Due.is("lookers 7: 4 9 12, 4 0 12, 4 9 0: 9 is least", x.lookers(7, 0), 2);
        Due.is("lookers 4: one who looks is at 0", x.lookers(4, 1), 6);
        Due.is("lookers 0", x.lookers(0, 1), 7);
        Due.is("lookers -1", x.lookers(-1, 0), OUTSIDE);
        Due.is("lookers 31", x.lookers(31, 0), OUTSIDE);
        Due.is("lookers what", x.lookers(0, 2), OUTSIDE);
        Due.is("lookers what", x.lookers(0, -1), OUTSIDE);
        Due.is("bestWay what", x.bestWay(2), OUTSIDE);
        Due.is("bestWay what", x.bestWay(-1), OUTSIDE);
    }

    private static void many() {
        Random random = new Random(3);
        for (int round = 0; round < 400; round++) {
            int players = random.nextInt(6);
            int most = round % 2 == 0 ? 31 : 4;
            int[][] lags = new int[players][2];
            StringBuilder text = new StringBuilder();
            for (int[] lag : lags) {
                lag[0] = random.nextInt(most);
                lag[1] = random.nextInt(most);
                text.append('l').append(lag[0]).append(' ').append(lag[1]).append(';');
            }
            CadenzaEnds x = Due.in(text.toString());
            int led = random.nextInt(1 << players);
            x.lead(led);
            compare(x, lags, led, text + " led " + led);
        }
    }

    private static void compare(CadenzaEnds x, int[][] lags, int led, String in) {
        Due.is(in + " apart", x.apart(), spread(lags, led, 0));
        int sets = 1 << lags.length;
        int way = 0;
        for (int set = sets - 1; set >= 0; set--) {
            way = spread(lags, set, 0) <= spread(lags, way, 0) ? set : way;
        }
        Due.is(in + " bestWay", x.bestWay(0), way);
        Due.is(in + " bestWay apart", x.bestWay(1), spread(lags, way, 0));
        for (int d = 0; d <= 30; d++) {
            int look = sets - 1;
            for (int set = sets - 1; set >= 0; set--) {
                boolean fits = spread(lags, led, set) <= d;
                look = fits && Integer.bitCount(set) <= Integer.bitCount(look) ? set : look;
            }
            Due.is(in + " lookers " + d, x.lookers(d, 0), Integer.bitCount(look));
            Due.is(in + " lookers set " + d, x.lookers(d, 1), look);
        }
    }

    private static int spread(int[][] lags, int led, int looking) {
        int widest = 0;
        for (int i = 0; i < lags.length; i++) {
            for (int j = 0; j < lags.length; j++) {
                int one = (looking >> i & 1) == 1 ? 0 : lags[i][led >> i & 1];
                int other = (looking >> j & 1) == 1 ? 0 : lags[j][led >> j & 1];
                widest = Math.max(widest, one - other);
            }
        }
        return widest;
    }
}
