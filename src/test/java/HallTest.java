/** Promises 1 to 9: a new object, the text, what the hall tells. */
public final class HallTest {
    private static final int UNKNOWN = CadenzaEnds.UNKNOWN;
    private static final int OUTSIDE = CadenzaEnds.OUTSIDE;
    private static final String TEXT =
            "p0 0 0 10,20;p2 4 7 5,9;p1 2 2 3;p3 0 11 8,11,30,60;s6 2;c5 4 9;l4 2;l9 3;l0 12;i7 10;i2 1;";

    public static void main(String[] args) {
        newObject();
        feeding();
        halls();
        hallBehindHall();
        telling();
        rows();
        Due.end("HallTest");
    }

    private static void newObject() {
        CadenzaEnds x = new CadenzaEnds();
        int[] due = {0, 0, 0, 0, 8, 0, 3, 2, 1, 0, 0, 0, 0, 0};
        for (int what = 0; what < due.length; what++) {
            Due.is("new told " + what, x.told(what), due[what]);
        }
        Due.is("new fault", x.fault(), CadenzaEnds.NONE);
        Due.odds("new ends 0", x.ends(0, 0), x.ends(0, 1), 1, 1);
        Due.odds("new ends 1", x.ends(1, 0), x.ends(1, 1), 0, 1);
        Due.odds("new by 420", x.by(420, 0), x.by(420, 1), 1, 1);
        Due.odds("new mean", x.mean(0), x.mean(1), 0, 1);
        Due.is("new edge 0", x.edge(0), 0);
        Due.is("new edge 1", x.edge(1), 0);
        Due.is("new seed", x.seed(7), 0);
        Due.is("new part", x.part(0, 0), UNKNOWN);
        Due.is("new goBack", x.goBack(0), CadenzaEnds.NOT);
    }

    private static void feeding() {
        CadenzaEnds x = new CadenzaEnds();
        Due.is("feed -1", x.feed(-1), OUTSIDE);
        Due.is("feed 256", x.feed(256), OUTSIDE);
        Due.is("feed 0", x.feed(0), 1);
        Due.is("feed 255", x.feed(255), 2);
        Due.is("told 3", x.told(3), 2);
        Due.is("hall", x.hall(), -11);
        for (int i = 1; i <= 250; i++) {
            Due.is("feed blank", x.feed(32), i);
        }
        Due.is("feed 251st", x.feed(32), CadenzaEnds.FULL);
        Due.is("feed 251st outside", x.feed(256), OUTSIDE);
        Due.is("told 3 full", x.told(3), 250);
        Due.is("hall of blanks", x.hall(), 0);
        Due.is("feed again", x.feed(32), 1);
        x.hall();
        Due.feed(x, " ".repeat(249) + "p");
        Due.is("hall of 250", x.hall(), -11);
        Due.is("fault of 250", x.fault(), 250);
    }

    private static void halls() {
        CadenzaEnds x = Due.in(TEXT);
        change(x);
        Due.is("hall faulty", Due.hall(x, "p0 0 0 1;s1 1;c1 1 1;l1 1;i1 1;x"), -11);
        Due.is("fault", x.fault(), 31);
        int[] due = {4, 3, 2, 0, 1, 2, 20, 4, 3, 5, 0, 2, 1, 1};
        for (int what = 0; what < due.length; what++) {
            if (what != 10) {
                Due.is("as it was, told " + what, x.told(what), due[what]);
            }
        }
        Due.is("as it was, lags", x.player(0, 0), 29);
        Due.is("as it was, part", x.part(0, 3), 2);
        Due.is("as it was, instrument", x.instrument(0, 0), 7);
        Due.is("as it was, edge", x.edge(1), 92);
        Due.is("as it was, out", x.out(92, 0), 1);
        Due.is("as it was, image", x.goBack(1), 1);
        x.seed(99);
        Due.is("hall again", Due.hall(x, "l1 2;"), 0);
        Due.is("no fault", x.fault(), CadenzaEnds.NONE);
        int[] fresh = {0, 1, 0, 0, 8, 0, 3, 2, 1, 0, 0, 0, 0, 0};
        for (int what = 0; what < fresh.length; what++) {
            Due.is("fresh told " + what, x.told(what), fresh[what]);
        }
        Due.is("images are gone", x.goBack(0), CadenzaEnds.NOT);
        Due.is("images are gone", x.goBack(1), CadenzaEnds.NOT);
        Due.is("the seed stays", x.seed(0), 99);
        Due.is("it ends at 0", x.edge(1), 0);
        Due.is("firstIn", x.firstIn(0), CadenzaEnds.NONE);
        Due.is("judge", x.judge(), CadenzaEnds.NONE);
        Due.is("out of 0", x.out(0, 0), 1);
        Due.is("out of 92", x.out(92, 0), 0);
    }

    private static void hallBehindHall() {
        CadenzaEnds x = Due.in(TEXT);
        for (int round = 0; round < 4; round++) {
            change(x);
            Due.is("hall", Due.hall(x, round % 2 == 0 ? "p0 1 0 10,20;p1 1 1 1;l1 2;l3 4;l5 6;" : TEXT), round % 2 == 0 ? 2 : 4);
            int[] due = round % 2 == 0 ? new int[] {8, 0, 3, 2, 1} : new int[] {6, 2, 5, 4, 9};
            for (int i = 0; i < 5; i++) {
                Due.is("told " + (4 + i) + " of a new hall", x.told(4 + i), due[i]);
            }
            for (int what = 9; what < 14; what++) {
                Due.is("told " + what + " of a new hall", x.told(what), 0);
            }
            Due.is("player of a new hall", x.player(0, 0), round % 2 == 0 ? 1 : 4);
            Due.is("no image", x.goBack(0), CadenzaEnds.NOT);
        }
    }

    private static void change(CadenzaEnds x) {
        x.costs(20, 4, 3);
        x.sign(1, 2);
        x.lags(0, 29, 28);
        x.lead(5);
        x.drift(2);
        x.enter(0, 5);
        x.write(0, 10);
        x.keep(0);
        x.keep(1);
    }

    private static void telling() {
        CadenzaEnds x = Due.in(TEXT);
        Due.feed(x, "abc");
        int[] due = {4, 3, 2, 3, 6, 2, 5, 4, 9, 0, 0, 0, 0, 0};
        for (int what = 0; what < due.length; what++) {
            Due.is("told " + what, x.told(what), due[what]);
        }
        Due.is("told -1", x.told(-1), OUTSIDE);
        Due.is("told 14", x.told(14), OUTSIDE);
        x.lead(6);
        x.enter(0, 0);
        x.enter(0, 0);
        x.write(1, 0);
        x.drift(3);
        Due.is("told 9", x.told(9), 6);
        Due.is("told 11", x.told(11), 3);
        Due.is("told 12", x.told(12), 2);
        Due.is("told 13", x.told(13), 1);
    }

    private static void rows() {
        CadenzaEnds x = Due.in(TEXT);
        int[][] parts = {{0, 0, 0, 2}, {2, 4, 7, 2}, {1, 2, 2, 1}, {3, 0, 11, 4}};
        int[][] lengths = {{10, 20}, {5, 9}, {3}, {8, 11, 30, 60}};
        for (int p = 0; p < 4; p++) {
            for (int what = 0; what < 4; what++) {
                Due.is("part " + p + " " + what, x.part(p, what), parts[p][what]);
            }
            for (int i = -1; i < 6; i++) {
                int due = i >= 0 && i < lengths[p].length ? lengths[p][i] : CadenzaEnds.NONE;
                Due.is("length " + p + " " + i, x.length(p, i), due);
            }
        }
        int[][] players = {{4, 2}, {9, 3}, {0, 12}};
        for (int p = 0; p < 3; p++) {
            Due.is("player " + p, x.player(p, 0), players[p][0]);
            Due.is("player " + p, x.player(p, 1), players[p][1]);
        }
        int[][] instruments = {{7, 10}, {2, 1}};
        for (int i = 0; i < 2; i++) {
            Due.is("instrument " + i, x.instrument(i, 0), instruments[i][0]);
            Due.is("instrument " + i, x.instrument(i, 1), instruments[i][1]);
        }
        Due.is("part 4", x.part(4, 9), UNKNOWN);
        Due.is("part -1", x.part(-1, 0), UNKNOWN);
        Due.is("part what", x.part(3, 4), OUTSIDE);
        Due.is("part what", x.part(3, -1), OUTSIDE);
        Due.is("length 4", x.length(4, 0), UNKNOWN);
        Due.is("length -1", x.length(-1, 0), UNKNOWN);
        Due.is("player 3", x.player(3, 2), UNKNOWN);
        Due.is("player -1", x.player(-1, 0), UNKNOWN);
        Due.is("player what", x.player(2, 2), OUTSIDE);
        Due.is("player what", x.player(2, -1), OUTSIDE);
        Due.is("instrument 2", x.instrument(2, 2), UNKNOWN);
        Due.is("instrument -1", x.instrument(-1, 0), UNKNOWN);
        Due.is("instrument what", x.instrument(1, 2), OUTSIDE);
        Due.is("instrument what", x.instrument(1, -1), OUTSIDE);
    }
}
