import java.util.Random;

/** Promises 15 to 25, 29, 30, 32 on many halls, against the list of every cadenza that can be. */
public final class OracleTest {
    private static final Random RANDOM = new Random(20261118);

    public static void main(String[] args) {
        for (int round = 0; round < 160; round++) {
            Oracle oracle = some(RANDOM.nextInt(6), round % 4 == 0 ? 3 : 60);
            compare(oracle, Due.in(oracle.text()));
        }
        Oracle widest = widest();
        compare(widest, Due.in(widest.text()));
        oneObjectInManyHalls(widest);
        Due.end("OracleTest");
    }

    /** Rows are used again from hall to hall: nothing of an earlier one may show. */
    private static void oneObjectInManyHalls(Oracle widest) {
        CadenzaEnds x = Due.in(widest.text());
        x.out(420, 0);
        for (int round = 0; round < 60; round++) {
            int parts = RANDOM.nextInt(6);
            Oracle oracle = some(parts, round % 2 == 0 ? 2 : 60);
            Due.is("hall()", Due.hall(x, oracle.text()), parts);
            compare(oracle, x);
        }
    }

    private static Oracle some(int parts, int longest) {
        int[] sort = new int[parts];
        int[] out = new int[parts];
        int[] key = new int[parts];
        int[][] lengths = new int[parts][];
        for (int p = 0; p < parts; p++) {
            boolean last = p == parts - 1;
            sort[p] = last && RANDOM.nextInt(3) > 0 ? 3 : RANDOM.nextInt(3);
            out[p] = sort[p] == 3 || RANDOM.nextInt(4) == 0 ? 0 : RANDOM.nextInt(8);
            key[p] = RANDOM.nextInt(12);
            lengths[p] = new int[1 + RANDOM.nextInt(4)];
            for (int i = 0; i < lengths[p].length; i++) {
                lengths[p][i] = 1 + RANDOM.nextInt(longest);
            }
        }
        Oracle oracle = new Oracle(sort, out, key, lengths);
        oracle.a = RANDOM.nextInt(9);
        oracle.b = RANDOM.nextInt(9);
        oracle.e = RANDOM.nextInt(21);
        oracle.l = RANDOM.nextInt(21);
        oracle.h = RANDOM.nextInt(21);
        return oracle;
    }

    /** The longest cadenza with the finest odds: nothing may run over. */
    private static Oracle widest() {
        int[] sort = {2, 2, 2, 2, 2, 2, 3};
        int[] out = {1, 3, 5, 7, 1, 3, 0};
        int[] key = {0, 1, 2, 3, 4, 5, 6};
        int[][] lengths = {{60, 59, 1, 2}, {60, 57, 3, 2}, {60, 53, 4, 2}, {60, 47, 7, 2}, {60, 41, 8, 2}, {60, 31, 9, 2}, {60, 7, 5, 1}};
        Oracle oracle = new Oracle(sort, out, key, lengths);
        oracle.e = 20;
        oracle.l = 20;
        oracle.h = 20;
        oracle.a = 5;
        oracle.b = 3;
        return oracle;
    }

    private static void compare(Oracle oracle, CadenzaEnds x) {
        String in = oracle.text() + " ";
        for (int t = 0; t <= 420; t += oracle.nights.size() > 5000 ? 20 : 1) {
            compareTenth(oracle, x, t, in);
        }
        for (int part = 0; part < 2; part++) {
            Due.is(in + "mean " + part, x.mean(part), oracle.mean(part));
            Due.is(in + "edge " + part, x.edge(part), oracle.edge(part));
            for (int q = 0; q <= 8; q++) {
                Due.is(in + "saved " + q + " " + part, x.saved(q, part), oracle.saved(q, part));
                Due.is(in + "claps " + q + " " + part, x.claps(q, part), oracle.claps(q, part));
            }
        }
        Due.is(in + "bestGo", x.bestGo(), oracle.bestGo());
        for (int r = 0; r <= 60; r += 10) {
            Due.is(in + "bestLift " + r, x.bestLift(r), oracle.bestLift(r));
        }
        for (int p = 0; p < oracle.sort.length; p++) {
            for (int k = 0; k < 12; k++) {
                Due.is(in + "lost " + p + " " + k, x.lost(p, k), Oracle.steps(k, oracle.key[p]));
            }
        }
    }

    private static void compareTenth(Oracle oracle, CadenzaEnds x, int t, String in) {
        int r = RANDOM.nextInt(61);
        int late = RANDOM.nextInt(4) == 0 ? RANDOM.nextInt(61) : RANDOM.nextInt(5);
        for (int part = 0; part < 2; part++) {
            Due.is(in + "ends " + t + " " + part, x.ends(t, part), oracle.ends(t, part));
            Due.is(in + "by " + t + " " + part, x.by(t, part), oracle.by(t, part));
            Due.is(in + "go " + t + " " + part, x.go(t, part), oracle.go(t, part));
            Due.is(in + "lift " + t + " " + r + " " + part, x.lift(t, r, part), oracle.lift(t, r, part));
            for (int p = 0; p < oracle.sort.length; p++) {
                Due.is(in + "starts " + p + " " + t + " " + part, x.starts(p, t, part), oracle.starts(p, t, part));
            }
            for (int shown = 0; shown < 3; shown++) {
                String call = in + "isIt " + t + " " + late + " " + shown + " " + part;
                Due.is(call, x.isIt(t, late, shown, part), oracle.isIt(t, late, shown, part));
            }
        }
        for (int what = 0; what < 3; what++) {
            Due.is(in + "out " + t + " " + what, x.out(t, what), oracle.out(t, what));
        }
    }
}
