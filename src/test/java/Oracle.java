import java.math.BigInteger;
import java.util.ArrayList;
import java.util.Arrays;
import java.util.List;

/** Answers out of a list of every cadenza that can be, one by one: slow, plain, and written apart from the class. */
final class Oracle {
    /** One cadenza: which PARTS were left out, where each began (-1: it did not), how long each was, when it ended. */
    record Night(int left, int[] began, int[] lasted, int end, long weight) {
    }

    final int[] sort;
    final int[] out;
    final int[] key;
    final int[][] lengths;
    int a = 8;
    int b = 0;
    int e = 3;
    int l = 2;
    int h = 1;
    final List<Night> nights = new ArrayList<>();
    final long[] byEnd = new long[421];
    long all = 1;

    Oracle(int[] sort, int[] out, int[] key, int[][] lengths) {
        this.sort = sort;
        this.out = out;
        this.key = key;
        this.lengths = lengths;
        for (int[] one : lengths) {
            all *= 8L * one.length;
        }
        int n = sort.length;
        int[] began = new int[n];
        int[] lasted = new int[n];
        tell(0, 0, 0, 1, began, lasted);
        for (Night night : nights) {
            byEnd[night.end] += night.weight;
        }
    }

    private void tell(int p, int left, int at, long weight, int[] began, int[] lasted) {
        if (p == sort.length) {
            nights.add(new Night(left, began.clone(), lasted.clone(), at, weight));
            return;
        }
        if (out[p] > 0) {
            began[p] = -1;
            lasted[p] = 0;
            tell(p + 1, left | 1 << p, at, weight * out[p] * lengths[p].length, began, lasted);
        }
        for (int length : lengths[p]) {
            began[p] = at;
            lasted[p] = length;
            tell(p + 1, left, at + length, weight * (8 - out[p]), began, lasted);
        }
    }

    static long side(BigInteger above, BigInteger below, int part) {
        if (above.signum() == 0) {
            return part;
        }
        BigInteger common = above.gcd(below);
        return (part == 0 ? above : below).divide(common).longValueExact();
    }

    private long side(long above, int part) {
        return side(BigInteger.valueOf(above), BigInteger.valueOf(all), part);
    }

    long ends(int t, int part) {
        return side(byEnd[t], part);
    }

    long by(int t, int part) {
        long sum = 0;
        for (Night night : nights) {
            sum += night.end <= t ? night.weight : 0;
        }
        return side(sum, part);
    }

    long mean(int part) {
        long sum = 0;
        for (Night night : nights) {
            sum += night.weight * night.end;
        }
        return side(sum, part);
    }

    int edge(int what) {
        int first = 420;
        int last = 0;
        for (Night night : nights) {
            first = Math.min(first, night.end);
            last = Math.max(last, night.end);
        }
        return what == 0 ? first : last;
    }

    long starts(int p, int t, int part) {
        long sum = 0;
        for (Night night : nights) {
            sum += night.began[p] == t ? night.weight : 0;
        }
        return side(sum, part);
    }

    long isIt(int t, int x, int shown, int part) {
        long trill = 0;
        long both = 0;
        for (Night night : nights) {
            for (int p = 0; p < sort.length; p++) {
                if (sort[p] < 2 || night.began[p] != t || night.lasted[p] <= x) {
                    continue;
                }
                int odds = sort[p] == 3 ? a : b;
                long weight = night.weight * (shown == 2 ? 8 : shown == 1 ? odds : 8 - odds);
                both += weight;
                trill += sort[p] == 3 ? weight : 0;
            }
        }
        return both == 0 ? CadenzaEnds.NOT : side(BigInteger.valueOf(trill), BigInteger.valueOf(both), part);
    }

    long goCost(int g) {
        long sum = 0;
        for (int end = 0; end <= 420; end++) {
            sum += byEnd[end] * (end > g ? (long) e * (end - g) : (long) l * (g - end));
        }
        return sum;
    }

    long liftCost(int at, int r) {
        long sum = 0;
        for (int end = 0; end <= 420; end++) {
            long heavy = end > at ? (long) h * (end - at) : 0;
            long late = end < at + r ? (long) l * (at + r - end) : 0;
            sum += byEnd[end] * (heavy + late);
        }
        return sum;
    }

    long go(int g, int part) {
        return side(goCost(g), part);
    }

    int bestGo() {
        int best = 0;
        for (int g = 1; g <= 420; g++) {
            best = goCost(g) < goCost(best) ? g : best;
        }
        return best;
    }

    long lift(int at, int r, int part) {
        return side(liftCost(at, r), part);
    }

    int bestLift(int r) {
        int best = 0;
        for (int at = 1; at <= 420; at++) {
            best = liftCost(at, r) < liftCost(best, r) ? at : best;
        }
        return best;
    }

    long saved(int q, int part) {
        return side(BigInteger.valueOf(goCost(bestGo()) * q), BigInteger.valueOf(all * 8), part);
    }

    long claps(int c, int part) {
        BigInteger above = BigInteger.ZERO;
        for (Night night : nights) {
            BigInteger silent = BigInteger.valueOf(night.weight);
            for (int p = 0; p < sort.length; p++) {
                boolean heard = sort[p] == 2 && (night.left >> p & 1) == 0;
                silent = silent.multiply(BigInteger.valueOf(heard ? 8 - c : 8));
            }
            above = above.add(silent);
        }
        BigInteger below = BigInteger.valueOf(all).multiply(BigInteger.valueOf(8).pow(sort.length));
        return side(above, below, part);
    }

    int out(int t, int what) {
        long[] weights = new long[1 << sort.length];
        for (Night night : nights) {
            weights[night.left] += night.end == t ? night.weight : 0;
        }
        int many = 0;
        int sure = weights.length - 1;
        int best = -1;
        for (int set = 0; set < weights.length; set++) {
            if (weights[set] > 0) {
                many++;
                sure &= set;
                best = best < 0 || weights[set] > weights[best] ? set : best;
            }
        }
        return what == 0 ? many : what == 2 ? best : many == 0 ? 0 : sure;
    }

    /** Steps by walking the circle both ways at once. */
    static int steps(int from, int to) {
        int up = from;
        int down = from;
        for (int step = 0; step < 12; step++) {
            if (up == to || down == to) {
                return step;
            }
            up = (up + 7) % 12;
            down = (down + 5) % 12;
        }
        throw new IllegalStateException("no way from " + from + " to " + to);
    }

    String text() {
        StringBuilder text = new StringBuilder();
        for (int p = 0; p < sort.length; p++) {
            text.append('p').append(sort[p]).append(' ').append(out[p]).append(' ').append(key[p]).append(' ');
            text.append(Arrays.toString(lengths[p]).replaceAll("[\\[\\] ]", "")).append(';');
        }
        text.append('s').append(a).append(' ').append(b).append(';');
        text.append('c').append(e).append(' ').append(l).append(' ').append(h).append(';');
        return text.toString();
    }
}
