import java.util.Random;

/** Promises 15 to 25, 29 to 32: by hand, with the edges and the refusals (many halls more: OracleTest). */
public final class EndTest {
    private static final int UNKNOWN = CadenzaEnds.UNKNOWN;
    private static final int OUTSIDE = CadenzaEnds.OUTSIDE;
    private static final int NOT = CadenzaEnds.NOT;
    private static final int[] NO_TENTH = {-1, 421, Integer.MIN_VALUE, Integer.MAX_VALUE};
    private static final int[] NO_SIDE = {-1, 2, Integer.MIN_VALUE, Integer.MAX_VALUE};

    public static void main(String[] args) {
        ends();
        isIt();
        goAndLift();
        clapsAndKeys();
        out();
        refusals();
        longest();
        Due.end("EndTest");
    }

    private static void ends() {
        CadenzaEnds x = Due.in("p0 2 0 10,10,20;p3 0 0 5;");
        Due.odds("ends 5", x.ends(5, 0), x.ends(5, 1), 1, 4);
        Due.odds("ends 15, a length told twice", x.ends(15, 0), x.ends(15, 1), 1, 2);
        Due.odds("ends 25", x.ends(25, 0), x.ends(25, 1), 1, 4);
        Due.odds("ends 16", x.ends(16, 0), x.ends(16, 1), 0, 1);
        Due.odds("by 4", x.by(4, 0), x.by(4, 1), 0, 1);
        Due.odds("by 15", x.by(15, 0), x.by(15, 1), 3, 4);
        Due.odds("by 24", x.by(24, 0), x.by(24, 1), 3, 4);
        Due.odds("by 25", x.by(25, 0), x.by(25, 1), 1, 1);
        Due.odds("mean", x.mean(0), x.mean(1), 15, 1);
        Due.is("first", x.edge(0), 5);
        Due.is("last", x.edge(1), 25);
        Due.odds("starts 0 0", x.starts(0, 0, 0), x.starts(0, 0, 1), 3, 4);
        Due.odds("starts 1 0", x.starts(1, 0, 0), x.starts(1, 0, 1), 1, 4);
        Due.odds("starts 1 10", x.starts(1, 10, 0), x.starts(1, 10, 1), 1, 2);
        Due.odds("starts 1 5", x.starts(1, 5, 0), x.starts(1, 5, 1), 0, 1);
        CadenzaEnds all = Due.in("p0 7 0 1;p1 1 0 60;");
        Due.is("all may be left out", all.edge(0), 0);
        Due.is("last", all.edge(1), 61);
    }

    private static void isIt() {
        CadenzaEnds x = Due.in("p2 4 0 10,20;p3 0 0 5,20;s6 2;");
        Due.odds("not known", x.isIt(0, 0, 2, 0), x.isIt(0, 0, 2, 1), 1, 2);
        Due.odds("shown", x.isIt(0, 0, 1, 0), x.isIt(0, 0, 1, 1), 3, 4);
        Due.odds("not shown", x.isIt(0, 0, 0, 0), x.isIt(0, 0, 0, 1), 1, 4);
        Due.odds("more than 4", x.isIt(0, 4, 2, 0), x.isIt(0, 4, 2, 1), 1, 2);
        Due.odds("more than 5", x.isIt(0, 5, 2, 0), x.isIt(0, 5, 2, 1), 1, 3);
        Due.odds("more than 10", x.isIt(0, 10, 2, 0), x.isIt(0, 10, 2, 1), 1, 2);
        Due.is("more than 20", x.isIt(0, 20, 2, 0), NOT);
        Due.is("more than 60", x.isIt(0, 60, 2, 1), NOT);
        Due.odds("at 10", x.isIt(10, 0, 2, 0), x.isIt(10, 0, 2, 1), 1, 1);
        Due.is("at 11", x.isIt(11, 0, 2, 0), NOT);
        x.sign(8, 8);
        Due.is("none shows nothing", x.isIt(0, 0, 0, 0), NOT);
        x.sign(0, 0);
        Due.is("none shows", x.isIt(0, 0, 1, 0), NOT);
        CadenzaEnds runs = Due.in("p0 0 0 10;p1 0 0 10;");
        Due.is("runs and tunes", runs.isIt(0, 0, 2, 0), NOT);
        CadenzaEnds falseEnds = Due.in("p0 0 0 10;p2 0 0 10;s8 0;");
        Due.odds("false", falseEnds.isIt(10, 9, 2, 0), falseEnds.isIt(10, 9, 2, 1), 0, 1);
        Due.is("false, shown", falseEnds.isIt(10, 9, 1, 0), NOT);
        Due.is("false, 10 is not more than 10", falseEnds.isIt(10, 10, 2, 0), NOT);
    }

    private static void goAndLift() {
        CadenzaEnds x = Due.in("p0 4 0 20;p3 0 0 10;c4 2 1;");
        Due.odds("go 0", x.go(0, 0), x.go(0, 1), 80, 1);
        Due.odds("go 10", x.go(10, 0), x.go(10, 1), 40, 1);
        Due.odds("go 21", x.go(21, 0), x.go(21, 1), 29, 1);
        Due.odds("go 30", x.go(30, 0), x.go(30, 1), 20, 1);
        Due.odds("go 420", x.go(420, 0), x.go(420, 1), 800, 1);
        Due.is("bestGo", x.bestGo(), 30);
        Due.odds("lift 0 0", x.lift(0, 0, 0), x.lift(0, 0, 1), 20, 1);
        Due.odds("lift 0 60", x.lift(0, 60, 0), x.lift(0, 60, 1), 100, 1);
        Due.odds("lift 10 3", x.lift(10, 3, 0), x.lift(10, 3, 1), 13, 1);
        Due.odds("lift 420 60", x.lift(420, 60, 0), x.lift(420, 60, 1), 920, 1);
        Due.is("bestLift 0", x.bestLift(0), 10);
        Due.is("bestLift 5", x.bestLift(5), 5);
        Due.is("bestLift 60", x.bestLift(60), 0);
        Due.odds("saved 8", x.saved(8, 0), x.saved(8, 1), 20, 1);
        Due.odds("saved 3", x.saved(3, 0), x.saved(3, 1), 15, 2);
        Due.odds("saved 0", x.saved(0, 0), x.saved(0, 1), 0, 1);
        x.costs(2, 2, 1);
        Due.is("bestGo, like ones", x.bestGo(), 10);
        x.costs(0, 0, 0);
        Due.is("bestGo, nothing costs", x.bestGo(), 0);
        Due.is("bestLift, nothing costs", x.bestLift(7), 0);
        Due.odds("saved, nothing costs", x.saved(8, 0), x.saved(8, 1), 0, 1);
    }

    private static void clapsAndKeys() {
        CadenzaEnds x = Due.in("p2 4 0 1;p1 4 5 1;p2 0 6 1;p3 0 11 1;i6 3;i5 3;i0 14;i6 3;");
        Due.odds("claps 8", x.claps(8, 0), x.claps(8, 1), 0, 1);
        Due.odds("claps 4", x.claps(4, 0), x.claps(4, 1), 3, 8);
        Due.odds("claps 1", x.claps(1, 0), x.claps(1, 1), 105, 128);
        Due.odds("claps 0", x.claps(0, 0), x.claps(0, 1), 1, 1);
        Due.is("lost 0 5", x.lost(0, 5), 1);
        Due.is("lost 0 7", x.lost(0, 7), 1);
        Due.is("lost 2 0", x.lost(2, 0), 6);
        Due.is("lost 3 0", x.lost(3, 0), 5);
        Due.is("lost 1 10", x.lost(1, 10), 1);
        // to KEY 0 from 6: 3 + 0 + 18; 3 + 5 * 5 + 3; 14 + 30 + 0
        Due.is("help 0 6", x.help(0, 6), 0);
        // from 5: 3 + 25 + 18; 3 + 0 + 3; 14 + 5 + 0
        Due.is("help 0 5", x.help(0, 5), 1);
        // from 0: 3 + 30 + 18; 3 + 5 + 3; 14 + 0 + 0
        Due.is("help 0 0", x.help(0, 0), 1);
        Due.is("help of nobody", Due.in("p0 0 0 1;").help(0, 0), CadenzaEnds.NONE);
        CadenzaEnds like = Due.in("p0 0 0 1;i0 3;i5 0;i0 0;i0 0;");
        Due.is("like ones", like.help(0, 0), 2);
        helps();
    }

    private static void helps() {
        Random random = new Random(11);
        for (int round = 0; round < 200; round++) {
            int key = random.nextInt(12);
            int many = random.nextInt(6);
            int[][] rows = new int[many][2];
            StringBuilder text = new StringBuilder("p0 0 " + key + " 1;");
            for (int[] row : rows) {
                row[0] = random.nextInt(12);
                row[1] = random.nextInt(round % 2 == 0 ? 100 : 20);
                text.append('i').append(row[0]).append(' ').append(row[1]).append(';');
            }
            CadenzaEnds x = Due.in(text.toString());
            for (int k = 0; k < 12; k++) {
                int best = -1;
                int least = Integer.MAX_VALUE;
                for (int i = many - 1; i >= 0; i--) {
                    int effort = rows[i][1] + 5 * Oracle.steps(k, rows[i][0]) + 3 * Oracle.steps(rows[i][0], key);
                    best = effort <= least ? i : best;
                    least = Math.min(least, effort);
                }
                Due.is(text + " help " + k, x.help(0, k), best);
            }
        }
    }

    private static void out() {
        CadenzaEnds x = Due.in("p0 4 0 10;p1 4 0 10;p2 2 0 10,20;p3 0 0 5;");
        Due.is("out 5", x.out(5, 0), 1);
        Due.is("out 5", x.out(5, 1), 7);
        Due.is("out 5", x.out(5, 2), 7);
        Due.is("out 15", x.out(15, 0), 3);
        Due.is("out 15", x.out(15, 1), 0);
        Due.is("out 15: 1/16, 1/16, 3/32", x.out(15, 2), 3);
        Due.is("out 25: {2}, {0}, {1}, {0, 1}", x.out(25, 0), 4);
        Due.is("out 25", x.out(25, 1), 0);
        Due.is("out 25: like ones", x.out(25, 2), 1);
        Due.is("out 45", x.out(45, 0), 1);
        Due.is("out 45", x.out(45, 1), 0);
        Due.is("out 45", x.out(45, 2), 0);
        Due.is("out 46", x.out(46, 0), 0);
        Due.is("out 46", x.out(46, 1), 0);
        Due.is("out 46", x.out(46, 2), CadenzaEnds.NONE);
        CadenzaEnds never = Due.in("p0 0 0 10;p1 4 0 10;");
        Due.is("O 0 is not left out", never.out(10, 0), 1);
        Due.is("O 0 is not left out", never.out(10, 1), 2);
        Due.is("O 0 is not left out", never.out(0, 0), 0);
    }

    private static void refusals() {
        CadenzaEnds x = Due.in("p2 4 0 10,20;p3 0 0 5;l1 1;i1 1;");
        for (int t : NO_TENTH) {
            Due.is("ends", x.ends(t, 0), OUTSIDE);
            Due.is("by", x.by(t, 0), OUTSIDE);
            Due.is("starts", x.starts(0, t, 0), OUTSIDE);
            Due.is("isIt", x.isIt(t, 0, 2, 0), OUTSIDE);
            Due.is("go", x.go(t, 0), OUTSIDE);
            Due.is("lift", x.lift(t, 0, 0), OUTSIDE);
            Due.is("out", x.out(t, 0), OUTSIDE);
        }
        for (int part : NO_SIDE) {
            Due.is("ends", x.ends(0, part), OUTSIDE);
            Due.is("by", x.by(0, part), OUTSIDE);
            Due.is("mean", x.mean(part), OUTSIDE);
            Due.is("edge", x.edge(part), OUTSIDE);
            Due.is("starts", x.starts(0, 0, part), OUTSIDE);
            Due.is("starts", x.starts(2, 0, part), UNKNOWN);
            Due.is("isIt", x.isIt(0, 0, 2, part), OUTSIDE);
            Due.is("isIt ahead of NOT", x.isIt(1, 0, 2, part), OUTSIDE);
            Due.is("go", x.go(0, part), OUTSIDE);
            Due.is("lift", x.lift(0, 0, part), OUTSIDE);
            Due.is("saved", x.saved(0, part), OUTSIDE);
            Due.is("claps", x.claps(0, part), OUTSIDE);
        }
        for (int r : new int[] {-1, 61}) {
            Due.is("isIt", x.isIt(0, r, 2, 0), OUTSIDE);
            Due.is("lift", x.lift(0, r, 0), OUTSIDE);
            Due.is("bestLift", x.bestLift(r), OUTSIDE);
        }
        for (int q : new int[] {-1, 9}) {
            Due.is("saved", x.saved(q, 0), OUTSIDE);
            Due.is("claps", x.claps(q, 0), OUTSIDE);
        }
        for (int what : new int[] {-1, 3}) {
            Due.is("isIt", x.isIt(0, 0, what, 0), OUTSIDE);
            Due.is("out", x.out(0, what), OUTSIDE);
        }
        for (int k : new int[] {-1, 12}) {
            Due.is("lost", x.lost(0, k), OUTSIDE);
            Due.is("help", x.help(0, k), OUTSIDE);
            Due.is("lost", x.lost(2, k), UNKNOWN);
            Due.is("help", x.help(-1, k), UNKNOWN);
        }
        Due.is("starts -1", x.starts(-1, 0, 0), UNKNOWN);
        Due.is("lost -1", x.lost(-1, 0), UNKNOWN);
        Due.is("help 2", x.help(2, 0), UNKNOWN);
    }

    private static void longest() {
        CadenzaEnds x = Due.in("p2 1 0 60;p2 1 0 60;p2 1 0 60;p2 1 0 60;p2 1 0 60;p2 1 0 60;p3 0 0 60;");
        Due.odds("ends 420", x.ends(420, 0), x.ends(420, 1), 117649, 262144);
        Due.odds("starts 6 360", x.starts(6, 360, 0), x.starts(6, 360, 1), 117649, 262144);
        Due.is("out 420", x.out(420, 0), 1);
        Due.is("out 420", x.out(420, 2), 0);
        Due.is("out 360", x.out(360, 0), 6);
        Due.is("edge", x.edge(1), 420);
        x.costs(20, 0, 20);
        Due.is("bestGo", x.bestGo(), 420);
        Due.is("bestLift", x.bestLift(60), 420);
    }
}
