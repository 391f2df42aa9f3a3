import java.util.ArrayList;
import java.util.List;

/** All that can be asked of an object without changing it. */
final class State {
    private State() {
    }

    static List<Long> of(CadenzaEnds x) {
        List<Long> all = butFault(x);
        all.add((long) x.fault());
        return all;
    }

    /** All but the letter of the latest fault. */
    static List<Long> butFault(CadenzaEnds x) {
        List<Long> all = new ArrayList<>();
        for (int what = 0; what < 14; what++) {
            all.add((long) x.told(what));
        }
        for (int p = 0; p < 7; p++) {
            for (int i = 0; i < 4; i++) {
                all.add((long) x.part(p, i));
                all.add((long) x.length(p, i));
                all.add((long) x.player(p, i));
                all.add((long) x.instrument(p, i));
            }
        }
        int seed = x.seed(0);
        x.seed(seed);
        all.add((long) seed);
        all.add((long) x.firstIn(0));
        all.add((long) x.firstIn(1));
        all.add((long) x.ahead(10));
        all.add((long) x.judge());
        all.add((long) x.bestGo());
        all.add((long) x.bestLift(9));
        all.add((long) x.apart());
        all.add(x.mean(0));
        all.add(x.mean(1));
        all.add((long) x.out(0, 0));
        return all;
    }
}
