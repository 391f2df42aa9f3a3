import java.util.ArrayList;
import java.util.Arrays;
import java.util.List;
import java.util.Random;
import java.util.regex.Matcher;
import java.util.regex.Pattern;

/** The whole document a second time, plainly: what it holds from call to call, with Oracle for the odds. */
final class Model {
    private static final int NONE = -1;
    private static final int UNKNOWN = -1000000001;
    private static final int OUTSIDE = -1000000002;
    private static final int NOT = -1000000003;
    private static final int FULL = -1000000004;

    private final StringBuilder text = new StringBuilder();
    private int faultAt = NONE;
    private Oracle oracle = new Oracle(new int[0], new int[0], new int[0], new int[0][]);
    private List<int[]> players = new ArrayList<>();
    private List<int[]> instruments = new ArrayList<>();
    private int led;
    private int paid;
    private int nights;
    private long seed;
    private final List<int[]> entries = new ArrayList<>();
    private final List<int[]> book = new ArrayList<>();
    private final Image[] images = new Image[2];

    private record Image(int[] numbers, List<int[]> players, long seed) {
    }

    /** What a call by name answers; each case refuses first, in the document's order. */
    long call(String name, int... n) {
        return switch (name) {
            case "feed" -> out(n[0], 0, 255) ? OUTSIDE : text.length() == 250 ? FULL : text.append((char) n[0]).length();
            case "hall" -> hall();
            case "fault" -> faultAt;
            case "told" -> told(n[0]);
            case "part" -> noPart(n[0]) ? UNKNOWN : out(n[1], 0, 3) ? OUTSIDE : part(n[0])[n[1]];
            case "length" -> noPart(n[0]) ? UNKNOWN : out(n[1], 0, oracle.lengths[n[0]].length - 1) ? NONE : oracle.lengths[n[0]][n[1]];
            case "player" -> noPlayer(n[0]) ? UNKNOWN : out(n[1], 0, 1) ? OUTSIDE : players.get(n[0])[n[1]];
            case "instrument" -> out(n[0], 0, instruments.size() - 1) ? UNKNOWN : out(n[1], 0, 1) ? OUTSIDE : instruments.get(n[0])[n[1]];
            case "costs" -> out(n[0], 0, 20) || out(n[1], 0, 20) || out(n[2], 0, 20) ? OUTSIDE : costs(n);
            case "sign" -> out(n[0], 0, 8) || out(n[1], 0, 8) ? OUTSIDE : sign(n);
            case "lags" -> noPlayer(n[0]) ? UNKNOWN : out(n[1], 0, 30) || out(n[2], 0, 30) ? OUTSIDE : lags(n);
            case "lead" -> out(n[0], 0, (1 << players.size()) - 1) ? UNKNOWN : lead(n[0]);
            case "drift" -> out(n[0], 1, 99) ? OUTSIDE : drift(n[0]);
            case "enter" -> noPlayer(n[0]) ? UNKNOWN : out(n[1], 0, 999) ? OUTSIDE : entries.size() == 12 ? FULL : add(entries, n);
            case "firstIn" -> out(n[0], 0, 1) ? OUTSIDE : firstIn(n[0]);
            case "ahead" -> out(n[0], 0, 999) ? OUTSIDE : entries.stream().filter(e -> e[1] < n[0]).count();
            case "write" -> noPart(n[0]) ? UNKNOWN : out(n[1], 0, 60) ? OUTSIDE : book.size() == 20 ? FULL : add(book, n);
            case "judge" -> judge();
            case "tear" -> tear();
            case "seed" -> n[0] < 0 ? OUTSIDE : seed(n[0]);
            case "keep" -> out(n[0], 0, 1) ? UNKNOWN : keep(n[0]);
            case "goBack" -> out(n[0], 0, 1) ? UNKNOWN : images[n[0]] == null ? NOT : goBack(images[n[0]]);
            default -> asked(name, n);
        };
    }

    /** A tenth at which something begins or ends in one of the cadenzas that can be. */
    int tenth(Random random) {
        Oracle.Night night = oracle.nights.get(random.nextInt(oracle.nights.size()));
        int p = random.nextInt(oracle.sort.length + 1);
        return p == oracle.sort.length ? night.end() : Math.max(0, night.began()[p]);
    }

    /** Calls that change nothing. */
    private long asked(String name, int[] n) {
        int side = n.length == 0 ? 0 : n[n.length - 1];
        boolean noSide = out(side, 0, 1);
        return switch (name) {
            case "ends" -> out(n[0], 0, 420) || noSide ? OUTSIDE : oracle.ends(n[0], side);
            case "by" -> out(n[0], 0, 420) || noSide ? OUTSIDE : oracle.by(n[0], side);
            case "mean" -> noSide ? OUTSIDE : oracle.mean(side);
            case "edge" -> noSide ? OUTSIDE : oracle.edge(side);
            case "starts" -> noPart(n[0]) ? UNKNOWN : out(n[1], 0, 420) || noSide ? OUTSIDE : oracle.starts(n[0], n[1], side);
            case "isIt" -> out(n[0], 0, 420) || out(n[1], 0, 60) || out(n[2], 0, 2) || noSide ? OUTSIDE : oracle.isIt(n[0], n[1], n[2], side);
            case "go" -> out(n[0], 0, 420) || noSide ? OUTSIDE : oracle.go(n[0], side);
            case "bestGo" -> oracle.bestGo();
            case "lift" -> out(n[0], 0, 420) || out(n[1], 0, 60) || noSide ? OUTSIDE : oracle.lift(n[0], n[1], side);
            case "bestLift" -> out(n[0], 0, 60) ? OUTSIDE : oracle.bestLift(n[0]);
            case "saved" -> out(n[0], 0, 8) || noSide ? OUTSIDE : oracle.saved(n[0], side);
            case "apart" -> spread(led, 0);
            case "bestWay" -> noSide ? OUTSIDE : side == 0 ? bestWay() : spread(bestWay(), 0);
            case "lookers" -> out(n[0], 0, 30) || noSide ? OUTSIDE : side == 1 ? lookers(n[0]) : Integer.bitCount(lookers(n[0]));
            case "claps" -> out(n[0], 0, 8) || noSide ? OUTSIDE : oracle.claps(n[0], side);
            case "lost" -> noPart(n[0]) ? UNKNOWN : out(n[1], 0, 11) ? OUTSIDE : Oracle.steps(n[1], oracle.key[n[0]]);
            case "help" -> noPart(n[0]) ? UNKNOWN : out(n[1], 0, 11) ? OUTSIDE : help(oracle.key[n[0]], n[1]);
            case "out" -> out(n[0], 0, 420) || out(n[1], 0, 2) ? OUTSIDE : oracle.out(n[0], n[1]);
            default -> throw new IllegalArgumentException(name);
        };
    }

    private static boolean out(int value, int least, int most) {
        return value < least || value > most;
    }

    private boolean noPart(int p) {
        return out(p, 0, oracle.sort.length - 1);
    }

    private boolean noPlayer(int p) {
        return out(p, 0, players.size() - 1);
    }

    private int[] part(int p) {
        return new int[] {oracle.sort[p], oracle.out[p], oracle.key[p], oracle.lengths[p].length};
    }

    private long told(int what) {
        long[] all = {oracle.sort.length, players.size(), instruments.size(), text.length(), oracle.a, oracle.b, oracle.e, oracle.l,
            oracle.h, led, paid, nights, entries.size(), book.size()};
        return out(what, 0, all.length - 1) ? OUTSIDE : all[what];
    }

    private long hall() {
        String told = text.toString();
        text.setLength(0);
        int[] reading = Texts.reading(told);
        faultAt = reading[0] == 0 ? NONE : reading[1];
        if (reading[0] != 0) {
            return -10 - reading[0];
        }
        List<int[]> parts = new ArrayList<>();
        players = new ArrayList<>();
        instruments = new ArrayList<>();
        int[] sign = {8, 0};
        int[] costs = {3, 2, 1};
        Matcher clause = Pattern.compile("([pscli])([^;]*);").matcher(told);
        while (clause.find()) {
            int[] numbers = Arrays.stream(clause.group(2).trim().split("[ ,]+")).mapToInt(Integer::parseInt).toArray();
            switch (clause.group(1).charAt(0)) {
                case 'p' -> parts.add(numbers);
                case 's' -> sign = numbers;
                case 'c' -> costs = numbers;
                case 'l' -> players.add(numbers);
                default -> instruments.add(numbers);
            }
        }
        oracle = new Oracle(parts.stream().mapToInt(p -> p[0]).toArray(), parts.stream().mapToInt(p -> p[1]).toArray(),
                parts.stream().mapToInt(p -> p[2]).toArray(), parts.stream().map(p -> Arrays.copyOfRange(p, 3, p.length)).toArray(int[][]::new));
        sign(sign);
        costs(costs);
        led = 0;
        paid = 0;
        nights = 0;
        tear();
        Arrays.fill(images, null);
        return parts.size();
    }

    private long costs(int[] n) {
        int was = oracle.e;
        oracle.e = n[0];
        oracle.l = n[1];
        oracle.h = n[2];
        return was;
    }

    private long sign(int[] n) {
        int was = oracle.a;
        oracle.a = n[0];
        oracle.b = n[1];
        return was;
    }

    private long lags(int[] n) {
        return players.set(n[0], new int[] {n[1], n[2]})[0];
    }

    private long lead(int set) {
        int was = led;
        led = set;
        return was;
    }

    private int draw(int n) {
        seed = (seed * 1103515245L + 12345L) % 2147483648L;
        return (int) (seed / 65536 % n);
    }

    private long drift(int n) {
        int goes = oracle.bestGo();
        for (int night = 0; night < n; night++) {
            int end = 0;
            for (int p = 0; p < oracle.sort.length; p++) {
                end += draw(8) < oracle.out[p] ? 0 : oracle.lengths[p][draw(oracle.lengths[p].length)];
            }
            paid = Math.min(999999999, paid + (end > goes ? oracle.e * (end - goes) : oracle.l * (goes - end)));
            nights++;
        }
        return paid;
    }

    private int spread(int way, int looking) {
        List<Integer> lags = new ArrayList<>();
        for (int p = 0; p < players.size(); p++) {
            lags.add((looking >> p & 1) == 1 ? 0 : players.get(p)[way >> p & 1]);
        }
        lags.sort(null);
        return lags.size() < 2 ? 0 : lags.get(lags.size() - 1) - lags.get(0);
    }

    private int bestWay() {
        int best = 0;
        for (int set = 0; set < 1 << players.size(); set++) {
            best = spread(set, 0) < spread(best, 0) ? set : best;
        }
        return best;
    }

    private int lookers(int d) {
        for (int many = 0; many <= players.size(); many++) {
            for (int set = 0; set < 1 << players.size(); set++) {
                if (Integer.bitCount(set) == many && spread(led, set) <= d) {
                    return set;
                }
            }
        }
        return NONE;
    }

    private int help(int to, int k) {
        int best = NONE;
        int least = Integer.MAX_VALUE;
        for (int i = 0; i < instruments.size(); i++) {
            int[] one = instruments.get(i);
            int effort = one[1] + 5 * Oracle.steps(k, one[0]) + 3 * Oracle.steps(one[0], to);
            best = effort < least ? i : best;
            least = Math.min(least, effort);
        }
        return best;
    }

    private static long add(List<int[]> rows, int[] row) {
        rows.add(row.clone());
        return rows.size();
    }

    private long firstIn(int what) {
        return entries.stream().min((one, other) -> Integer.compare(one[1] * 10 + one[0], other[1] * 10 + other[0])).map(e -> e[what]).orElse(NONE);
    }

    private long judge() {
        for (int i = 0; i < book.size(); i++) {
            int p = book.get(i)[0];
            int length = book.get(i)[1];
            boolean can = length == 0 ? oracle.out[p] > 0 : Arrays.stream(oracle.lengths[p]).anyMatch(one -> one == length);
            if (!can || p != i % oracle.sort.length) {
                return i;
            }
        }
        return NONE;
    }

    private long tear() {
        int had = entries.size() + book.size();
        entries.clear();
        book.clear();
        return had;
    }

    private long seed(int v) {
        long was = seed;
        seed = v;
        return was;
    }

    private long keep(int i) {
        int[] numbers = {oracle.e, oracle.l, oracle.h, oracle.a, oracle.b, led, paid, nights};
        images[i] = new Image(numbers, new ArrayList<>(players), seed);
        return 1;
    }

    private long goBack(Image image) {
        int[] n = image.numbers();
        costs(n);
        sign(new int[] {n[3], n[4]});
        led = n[5];
        paid = n[6];
        nights = n[7];
        players = new ArrayList<>(image.players());
        seed = image.seed();
        return 1;
    }
}
