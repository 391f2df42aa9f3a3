import java.util.Arrays;

/**
 * Out of the cadenza: when it ends, when to go, whom to follow.
 * The document ../shared/DOC.md says what each call answers.
 */
public final class CadenzaEnds {
    public static final int NONE = -1, UNKNOWN = -1000000001, OUTSIDE = -1000000002, NOT = -1000000003, FULL = -1000000004;

    private static final int MOST_LETTERS = 250;
    private static final int MOST_PARTS = 7;
    private static final int MOST_LENGTHS = 4;
    private static final int MOST_PLAYERS = 5;
    private static final int MOST_INSTRUMENTS = 5;
    private static final int MOST_ENTRIES = 12;
    private static final int MOST_LINES = 20;
    private static final int MOST_PAID = 999999999;
    private static final int IMAGES = 2;

    private static final int LONGEST = 60;
    private static final int LAST_TENTH = MOST_PARTS * LONGEST;
    private static final int MOST_LAG = 30;
    private static final int MOST_COST = 20;
    private static final int LAST_CLOCK = 999;
    private static final int EIGHTHS = 8;
    private static final int KEYS = 12;

    private static final int LAST_SORT = 3;
    private static final int FALSE_END = 2;
    private static final int TRILL = 3;
    private static final int SHOWN = 1;
    private static final int NOT_KNOWN = 2;

    private final Reader reader = new Reader();
    private final EndOdds endOdds = new EndOdds();
    private final LeftOut leftOut = new LeftOut();
    private final Entries entries = new Entries();
    private final Book book = new Book();
    private final Agreed[] images = new Agreed[IMAGES];
    private final boolean[] kept = new boolean[IMAGES];
    private Hall open = new Hall();
    private Hall spare = new Hall();

    public CadenzaEnds() {
        for (int i = 0; i < IMAGES; i++) {
            images[i] = new Agreed();
        }
    }

    // ---- the hall

    public int feed(int letter) {
        if (!within(letter, 0, 255)) {
            return OUTSIDE;
        }
        return reader.put(letter) ? reader.size : FULL;
    }

    public int hall() {
        int fault = reader.readInto(spare);
        reader.size = 0;
        if (fault != Reader.NO_FAULT) {
            return -10 - fault;
        }
        openSpare();
        return open.parts;
    }

    public int fault() {
        return reader.faultAt;
    }

    public int told(int what) {
        Agreed agreed = open.agreed;
        switch (what) {
            case 0: return open.parts;
            case 1: return open.players;
            case 2: return open.instruments;
            case 3: return reader.size;
            case 4: return agreed.atTrill;
            case 5: return agreed.atFalseEnd;
            case 6: return agreed.early;
            case 7: return agreed.late;
            case 8: return agreed.heavy;
            case 9: return agreed.byLeader;
            case 10: return agreed.paid;
            case 11: return agreed.nights;
            case 12: return entries.size;
            case 13: return book.size;
            default: return OUTSIDE;
        }
    }

    public int part(int p, int what) {
        if (!open.hasPart(p)) {
            return UNKNOWN;
        }
        Part asked = open.row[p];
        switch (what) {
            case 0: return asked.sort;
            case 1: return asked.leftOutOf8;
            case 2: return asked.key;
            case 3: return asked.count;
            default: return OUTSIDE;
        }
    }

    public int length(int p, int i) {
        if (!open.hasPart(p)) {
            return UNKNOWN;
        }
        Part asked = open.row[p];
        return within(i, 0, asked.count - 1) ? asked.lengths[i] : NONE;
    }

    public int player(int p, int what) {
        if (!open.hasPlayer(p)) {
            return UNKNOWN;
        }
        switch (what) {
            case 0: return open.agreed.stick[p];
            case 1: return open.agreed.leader[p];
            default: return OUTSIDE;
        }
    }

    public int instrument(int i, int what) {
        if (!within(i, 0, open.instruments - 1)) {
            return UNKNOWN;
        }
        switch (what) {
            case 0: return open.chordKeys[i];
            case 1: return open.notices[i];
            default: return OUTSIDE;
        }
    }

    // ---- what is agreed

    public int costs(int e, int l, int h) {
        if (!within(e, 0, MOST_COST) || !within(l, 0, MOST_COST) || !within(h, 0, MOST_COST)) {
            return OUTSIDE;
        }
        int was = open.agreed.early;
        open.agreed.setCosts(e, l, h);
        return was;
    }

    public int sign(int a, int b) {
        if (!within(a, 0, EIGHTHS) || !within(b, 0, EIGHTHS)) {
            return OUTSIDE;
        }
        int was = open.agreed.atTrill;
        open.agreed.setSign(a, b);
        return was;
    }

    public int lags(int p, int t, int m) {
        if (!open.hasPlayer(p)) {
            return UNKNOWN;
        }
        if (!within(t, 0, MOST_LAG) || !within(m, 0, MOST_LAG)) {
            return OUTSIDE;
        }
        int was = open.agreed.stick[p];
        open.agreed.stick[p] = t;
        open.agreed.leader[p] = m;
        return was;
    }

    public int lead(int set) {
        if (!within(set, 0, open.everyPlayer())) {
            return UNKNOWN;
        }
        int was = open.agreed.byLeader;
        open.agreed.byLeader = set;
        return was;
    }

    public int drift(int n) {
        if (!within(n, 1, 99)) {
            return OUTSIDE;
        }
        int stickGoes = cheapestGo();
        for (int night = 0; night < n; night++) {
            playNight(stickGoes);
        }
        return open.agreed.paid;
    }

    // ---- the end

    public long ends(int t, int part) {
        if (!isTenth(t) || !isSide(part)) {
            return OUTSIDE;
        }
        return inLowest(endOdds.endingAt(t), endOdds.all(), part);
    }

    public long by(int t, int part) {
        if (!isTenth(t) || !isSide(part)) {
            return OUTSIDE;
        }
        return inLowest(endOdds.endedBy(t), endOdds.all(), part);
    }

    public long mean(int part) {
        if (!isSide(part)) {
            return OUTSIDE;
        }
        return inLowest(endOdds.tenthsBy(LAST_TENTH), endOdds.all(), part);
    }

    public int edge(int what) {
        switch (what) {
            case 0: return endOdds.firstTenthWith(1);
            case 1: return endOdds.firstTenthWith(endOdds.all());
            default: return OUTSIDE;
        }
    }

    public long starts(int p, int t, int part) {
        if (!open.hasPart(p)) {
            return UNKNOWN;
        }
        if (!isTenth(t) || !isSide(part)) {
            return OUTSIDE;
        }
        long above = endOdds.beginning(p, t) * open.row[p].playedOf8();
        return inLowest(above, endOdds.allAhead(p) * EIGHTHS, part);
    }

    public long isIt(int t, int x, int shown, int part) {
        if (!isTenth(t) || !within(x, 0, LONGEST) || !within(shown, 0, 2) || !isSide(part)) {
            return OUTSIDE;
        }
        long trill = goingOn(TRILL, t, x) * open.agreed.showing(TRILL, shown);
        long falseEnd = goingOn(FALSE_END, t, x) * open.agreed.showing(FALSE_END, shown);
        long all = trill + falseEnd;
        return all == 0 ? NOT : inLowest(trill, all, part);
    }

    // ---- when to go, to lift

    public long go(int g, int part) {
        if (!isTenth(g) || !isSide(part)) {
            return OUTSIDE;
        }
        return inLowest(goCost(g), endOdds.all(), part);
    }

    public int bestGo() {
        return cheapestGo();
    }

    public long lift(int a, int r, int part) {
        if (!isTenth(a) || !within(r, 0, LONGEST) || !isSide(part)) {
            return OUTSIDE;
        }
        long cost = endOdds.cost(open.agreed.heavy, open.agreed.late, a, r);
        return inLowest(cost, endOdds.all(), part);
    }

    public int bestLift(int r) {
        if (!within(r, 0, LONGEST)) {
            return OUTSIDE;
        }
        return endOdds.cheapest(open.agreed.heavy, open.agreed.late, r);
    }

    public long saved(int q, int part) {
        if (!within(q, 0, EIGHTHS) || !isSide(part)) {
            return OUTSIDE;
        }
        return inLowest(goCost(cheapestGo()) * q, endOdds.all() * EIGHTHS, part);
    }

    // ---- players

    public int apart() {
        return open.lagSpread(open.agreed.byLeader, 0);
    }

    public int bestWay(int what) {
        if (!within(what, 0, 1)) {
            return OUTSIDE;
        }
        int best = 0;
        int least = open.lagSpread(0, 0);
        for (int set = 1; set <= open.everyPlayer(); set++) {
            int spread = open.lagSpread(set, 0);
            if (spread < least) {
                least = spread;
                best = set;
            }
        }
        return what == 0 ? best : least;
    }

    public int lookers(int d, int what) {
        if (!within(d, 0, MOST_LAG) || !within(what, 0, 1)) {
            return OUTSIDE;
        }
        int best = NONE;
        int fewest = NONE;
        for (int set = 0; set <= open.everyPlayer(); set++) {
            int many = Integer.bitCount(set);
            boolean fewer = fewest == NONE || many < fewest;
            if (fewer && open.lagSpread(open.agreed.byLeader, set) <= d) {
                fewest = many;
                best = set;
            }
        }
        return what == 0 ? fewest : best;
    }

    // ---- claps, keys, parts left out

    public long claps(int c, int part) {
        if (!within(c, 0, EIGHTHS) || !isSide(part)) {
            return OUTSIDE;
        }
        long above = 1;
        long below = 1;
        for (int p = 0; p < open.parts; p++) {
            Part one = open.row[p];
            if (one.sort == FALSE_END) {
                above *= one.leftOutOf8 * EIGHTHS + one.playedOf8() * (EIGHTHS - c);
                below *= EIGHTHS * EIGHTHS;
            }
        }
        return inLowest(above, below, part);
    }

    public int lost(int p, int k) {
        if (!open.hasPart(p)) {
            return UNKNOWN;
        }
        if (!within(k, 0, KEYS - 1)) {
            return OUTSIDE;
        }
        return steps(k, open.row[p].key);
    }

    public int help(int p, int k) {
        if (!open.hasPart(p)) {
            return UNKNOWN;
        }
        if (!within(k, 0, KEYS - 1)) {
            return OUTSIDE;
        }
        int best = NONE;
        int least = 0;
        for (int i = 0; i < open.instruments; i++) {
            int chord = open.chordKeys[i];
            int effort = open.notices[i] + 5 * steps(k, chord) + 3 * steps(chord, open.row[p].key);
            if (best == NONE || effort < least) {
                least = effort;
                best = i;
            }
        }
        return best;
    }

    public int out(int t, int what) {
        if (!isTenth(t) || !within(what, 0, 2)) {
            return OUTSIDE;
        }
        leftOut.weighOnce(open);
        switch (what) {
            case 0: return leftOut.sets[t];
            case 1: return leftOut.sure[t];
            default: return leftOut.likeliest[t];
        }
    }

    // ---- records

    public int enter(int p, int t) {
        if (!open.hasPlayer(p)) {
            return UNKNOWN;
        }
        if (!within(t, 0, LAST_CLOCK)) {
            return OUTSIDE;
        }
        return entries.put(p, t) ? entries.size : FULL;
    }

    public int firstIn(int what) {
        if (!within(what, 0, 1)) {
            return OUTSIDE;
        }
        int first = entries.first();
        if (first == NONE) {
            return NONE;
        }
        return what == 0 ? entries.who[first] : entries.when[first];
    }

    public int ahead(int e) {
        return within(e, 0, LAST_CLOCK) ? entries.aheadOf(e) : OUTSIDE;
    }

    public int write(int p, int length) {
        if (!open.hasPart(p)) {
            return UNKNOWN;
        }
        if (!within(length, 0, LONGEST)) {
            return OUTSIDE;
        }
        return book.put(p, length) ? book.size : FULL;
    }

    public int judge() {
        return book.firstWrong(open);
    }

    public int tear() {
        int had = entries.size + book.size;
        entries.size = 0;
        book.size = 0;
        return had;
    }

    // ---- draws, images

    public int seed(int v) {
        if (v < 0) {
            return OUTSIDE;
        }
        int was = open.agreed.seed;
        open.agreed.seed = v;
        return was;
    }

    public int keep(int i) {
        if (!within(i, 0, IMAGES - 1)) {
            return UNKNOWN;
        }
        images[i].copyFrom(open.agreed);
        kept[i] = true;
        return 1;
    }

    public int goBack(int i) {
        if (!within(i, 0, IMAGES - 1)) {
            return UNKNOWN;
        }
        if (!kept[i]) {
            return NOT;
        }
        open.agreed.copyFrom(images[i]);
        return 1;
    }

    // ---- what several calls need

    private static boolean within(int value, int least, int most) {
        return value >= least && value <= most;
    }

    private static boolean isTenth(int t) {
        return within(t, 0, LAST_TENTH);
    }

    private static boolean isSide(int part) {
        return part == 0 || part == 1;
    }

    private static long inLowest(long above, long below, int part) {
        long common = commonDivisor(above, below);
        if (common == 0) {
            return part;
        }
        return (part == 0 ? above : below) / common;
    }

    private static long commonDivisor(long a, long b) {
        long larger = a;
        long smaller = b;
        // Each two steps halve what is left, so 63 bits are used up long before the bound.
        for (int step = 0; step < 200 && smaller != 0; step++) {
            long left = larger % smaller;
            larger = smaller;
            smaller = left;
        }
        return larger;
    }

    private static int steps(int from, int to) {
        // 7 times 7 leaves 1 by 12: so 7 times the way in keys is the way in steps.
        int around = Math.floorMod((to - from) * 7, KEYS);
        return Math.min(around, KEYS - around);
    }

    private void openSpare() {
        Hall old = open;
        spare.agreed.seed = old.agreed.seed;
        open = spare;
        spare = old;
        entries.size = 0;
        book.size = 0;
        for (int i = 0; i < IMAGES; i++) {
            kept[i] = false;
        }
        endOdds.weigh(open);
        leftOut.forget();
    }

    private long goCost(int g) {
        return endOdds.cost(open.agreed.early, open.agreed.late, g, 0);
    }

    private int cheapestGo() {
        return endOdds.cheapest(open.agreed.early, open.agreed.late, 0);
    }

    private long goingOn(int sort, int t, int x) {
        long sum = 0;
        for (int p = 0; p < open.parts; p++) {
            Part one = open.row[p];
            if (one.sort == sort) {
                long begun = endOdds.beginning(p, t) * one.playedOf8();
                sum += begun * one.longerThan(x) * endOdds.allBehind(p);
            }
        }
        return sum;
    }

    private void playNight(int stickGoes) {
        Agreed agreed = open.agreed;
        int end = 0;
        for (int p = 0; p < open.parts; p++) {
            Part one = open.row[p];
            if (agreed.draw(EIGHTHS) >= one.leftOutOf8) {
                int choice = agreed.draw(one.count);
                end += within(choice, 0, MOST_LENGTHS - 1) ? one.lengths[choice] : 0;
            }
        }
        int early = agreed.early * Math.max(0, end - stickGoes);
        int late = agreed.late * Math.max(0, stickGoes - end);
        agreed.paid = Math.min(MOST_PAID, agreed.paid + early + late);
        agreed.nights++;
    }

    /** A PART; weights of it are counted in eighths times its LENGTHS, so that all stay whole. */
    private static final class Part {
        int sort;
        int leftOutOf8;
        int key;
        int count;
        final int[] lengths = new int[MOST_LENGTHS];

        int playedOf8() {
            return EIGHTHS - leftOutOf8;
        }

        int choices() {
            return EIGHTHS * count;
        }

        boolean hasLength(int length) {
            for (int i = 0; i < count; i++) {
                if (lengths[i] == length) {
                    return true;
                }
            }
            return false;
        }

        int longerThan(int x) {
            int many = 0;
            for (int i = 0; i < count; i++) {
                if (lengths[i] > x) {
                    many++;
                }
            }
            return many;
        }

        int longest() {
            int most = 0;
            for (int i = 0; i < count; i++) {
                most = Math.max(most, lengths[i]);
            }
            return most;
        }

        void addPlayed(long[] from, long[] to, int reach) {
            long weight = playedOf8();
            for (int i = 0; i < count; i++) {
                int length = lengths[i];
                for (int t = 0; t <= reach && t + length < to.length; t++) {
                    to[t + length] += from[t] * weight;
                }
            }
        }

        void addLeftOut(long[] from, long[] to, int reach) {
            long weight = (long) leftOutOf8 * count;
            for (int t = 0; t <= reach && t < to.length; t++) {
                to[t] += from[t] * weight;
            }
        }
    }

    /** What is agreed and what came of it: all that an IMAGE keeps. */
    private static final class Agreed {
        int early;
        int late;
        int heavy;
        int atTrill;
        int atFalseEnd;
        final int[] stick = new int[MOST_PLAYERS];
        final int[] leader = new int[MOST_PLAYERS];
        int byLeader;
        int paid;
        int nights;
        int seed;

        void setUntold() {
            setCosts(3, 2, 1);
            setSign(8, 0);
            byLeader = 0;
            paid = 0;
            nights = 0;
        }

        void setCosts(int e, int l, int h) {
            early = e;
            late = l;
            heavy = h;
        }

        void setSign(int a, int b) {
            atTrill = a;
            atFalseEnd = b;
        }

        void copyFrom(Agreed other) {
            setCosts(other.early, other.late, other.heavy);
            setSign(other.atTrill, other.atFalseEnd);
            for (int p = 0; p < MOST_PLAYERS; p++) {
                stick[p] = other.stick[p];
                leader[p] = other.leader[p];
            }
            byLeader = other.byLeader;
            paid = other.paid;
            nights = other.nights;
            seed = other.seed;
        }

        int showing(int sort, int shown) {
            if (shown == NOT_KNOWN) {
                return EIGHTHS;
            }
            int odds = sort == TRILL ? atTrill : atFalseEnd;
            return shown == SHOWN ? odds : EIGHTHS - odds;
        }

        int draw(int n) {
            seed = (int) ((seed * 1103515245L + 12345L) & 0x7fffffffL);
            return n > 0 ? seed / 65536 % n : 0;
        }
    }

    /** THE HALL: what a text tells, with what has been agreed in it since. */
    private static final class Hall {
        int parts;
        final Part[] row = new Part[MOST_PARTS];
        int players;
        int instruments;
        final int[] chordKeys = new int[MOST_INSTRUMENTS];
        final int[] notices = new int[MOST_INSTRUMENTS];
        final Agreed agreed = new Agreed();

        Hall() {
            for (int p = 0; p < MOST_PARTS; p++) {
                row[p] = new Part();
            }
            agreed.setUntold();
        }

        void clear() {
            parts = 0;
            players = 0;
            instruments = 0;
            agreed.setUntold();
        }

        boolean hasPart(int p) {
            return within(p, 0, parts - 1);
        }

        boolean hasPlayer(int p) {
            return within(p, 0, players - 1);
        }

        int everyPlayer() {
            return (1 << players) - 1;
        }

        boolean endsInTrill() {
            return within(parts, 1, MOST_PARTS) && row[parts - 1].sort == TRILL;
        }

        int lagSpread(int byLeader, int looking) {
            if (players < 2) {
                return 0;
            }
            int least = MOST_LAG;
            int most = 0;
            for (int p = 0; p < players; p++) {
                int lag = (byLeader >> p & 1) == 1 ? agreed.leader[p] : agreed.stick[p];
                int heard = (looking >> p & 1) == 1 ? 0 : lag;
                least = Math.min(least, heard);
                most = Math.max(most, heard);
            }
            return most - least;
        }
    }

    /** THE TEXT, and how it is read: from the left, up to the first fault. */
    private static final class Reader {
        static final int NO_FAULT = 0;
        static final int MISPLACED = 1;
        static final int BAD_NUMBER = 2;
        static final int TOO_MANY = 3;
        static final int AGAINST_TRILL = 4;
        static final int BLANK = 32;
        static final int MOST_FIGURES = 3;

        final int[] letters = new int[MOST_LETTERS];
        int size;
        int faultAt = NONE;
        private int fault;
        private int at;
        private int numberAt;
        private boolean signTold;
        private boolean costsTold;

        boolean put(int letter) {
            if (size >= MOST_LETTERS) {
                return false;
            }
            letters[size] = letter;
            size++;
            return true;
        }

        int readInto(Hall hall) {
            fault = NO_FAULT;
            faultAt = NONE;
            at = 0;
            signTold = false;
            costsTold = false;
            hall.clear();
            skipBlanks();
            // Each clause takes a letter at least.
            for (int clause = 0; clause < MOST_LETTERS && at < size && fault == NO_FAULT; clause++) {
                readClause(hall);
                skipBlanks();
            }
            return fault;
        }

        private void readClause(Hall hall) {
            switch (here()) {
                case 'p':
                    readPart(hall);
                    break;
                case 's':
                    readSign(hall.agreed);
                    break;
                case 'c':
                    readCosts(hall.agreed);
                    break;
                case 'l':
                    readPlayer(hall);
                    break;
                case 'i':
                    readInstrument(hall);
                    break;
                default:
                    fail(MISPLACED, at);
            }
        }

        private void readPart(Hall hall) {
            if (hall.parts >= MOST_PARTS) {
                fail(TOO_MANY, at);
                return;
            }
            if (hall.endsInTrill()) {
                fail(AGAINST_TRILL, at);
                return;
            }
            at++;
            Part part = hall.row[hall.parts];
            part.sort = number(0, LAST_SORT);
            part.leftOutOf8 = number(0, EIGHTHS - 1);
            if (part.sort == TRILL && part.leftOutOf8 != 0) {
                fail(AGAINST_TRILL, numberAt);
            }
            part.key = number(0, KEYS - 1);
            readLengths(part);
            close();
            hall.parts++;
        }

        private void readLengths(Part part) {
            boolean more = true;
            for (int i = 0; i < MOST_LENGTHS && more; i++) {
                part.lengths[i] = number(1, LONGEST);
                part.count = i + 1;
                more = i + 1 < MOST_LENGTHS && takeComma();
            }
        }

        private void readSign(Agreed agreed) {
            if (signTold) {
                fail(TOO_MANY, at);
                return;
            }
            signTold = true;
            at++;
            int atTrill = number(0, EIGHTHS);
            int atFalseEnd = number(0, EIGHTHS);
            close();
            agreed.setSign(atTrill, atFalseEnd);
        }

        private void readCosts(Agreed agreed) {
            if (costsTold) {
                fail(TOO_MANY, at);
                return;
            }
            costsTold = true;
            at++;
            int early = number(0, MOST_COST);
            int late = number(0, MOST_COST);
            int heavy = number(0, MOST_COST);
            close();
            agreed.setCosts(early, late, heavy);
        }

        private void readPlayer(Hall hall) {
            if (hall.players >= MOST_PLAYERS) {
                fail(TOO_MANY, at);
                return;
            }
            at++;
            hall.agreed.stick[hall.players] = number(0, MOST_LAG);
            hall.agreed.leader[hall.players] = number(0, MOST_LAG);
            close();
            hall.players++;
        }

        private void readInstrument(Hall hall) {
            if (hall.instruments >= MOST_INSTRUMENTS) {
                fail(TOO_MANY, at);
                return;
            }
            at++;
            hall.chordKeys[hall.instruments] = number(0, KEYS - 1);
            hall.notices[hall.instruments] = number(0, 99);
            close();
            hall.instruments++;
        }

        private int number(int least, int most) {
            skipBlanks();
            numberAt = at;
            int value = 0;
            int figures = 0;
            int letter = here();
            for (int step = 0; step < MOST_LETTERS && letter >= '0' && letter <= '9'; step++) {
                // Figures behind the third are only counted: the value could outgrow an int.
                if (figures < MOST_FIGURES) {
                    value = value * 10 + letter - '0';
                }
                figures++;
                at++;
                letter = here();
            }
            if (figures == 0) {
                fail(MISPLACED, at);
            } else if (figures > MOST_FIGURES || !within(value, least, most)) {
                fail(BAD_NUMBER, numberAt);
            }
            return value;
        }

        private boolean takeComma() {
            skipBlanks();
            if (here() != ',') {
                return false;
            }
            at++;
            return true;
        }

        private void close() {
            skipBlanks();
            if (here() == ';') {
                at++;
            } else {
                fail(MISPLACED, at);
            }
        }

        private void skipBlanks() {
            while (at < size && letters[at] == BLANK) {
                at++;
            }
        }

        private int here() {
            return at < size ? letters[at] : NONE;
        }

        /** Reading goes on to the clause's end, always to the right: so the first fault is the one that stands. */
        private void fail(int number, int letter) {
            if (fault == NO_FAULT) {
                fault = number;
                faultAt = letter;
            }
        }
    }

    /**
     * When PARTS begin and when all ends, as weights:
     * choices[p] is what the weights of all ways through the PARTS ahead of p come to.
     */
    private static final class EndOdds {
        final long[][] begins = new long[MOST_PARTS + 1][LAST_TENTH + 1];
        final long[] choices = new long[MOST_PARTS + 1];
        final long[] ended = new long[LAST_TENTH + 1];
        final long[] tenths = new long[LAST_TENTH + 1];
        int parts;

        /** Without PARTS it ends at tenth 0; the first PART begins there in every hall, so this row is never weighed again. */
        EndOdds() {
            begins[0][0] = 1;
            choices[0] = 1;
            for (int t = 0; t <= LAST_TENTH; t++) {
                ended[t] = 1;
            }
        }

        void weigh(Hall hall) {
            parts = Math.min(hall.parts, MOST_PARTS);
            int reach = 0;
            for (int p = 0; p < parts; p++) {
                Part part = hall.row[p];
                Arrays.fill(begins[p + 1], 0);
                part.addLeftOut(begins[p], begins[p + 1], reach);
                part.addPlayed(begins[p], begins[p + 1], reach);
                choices[p + 1] = choices[p] * part.choices();
                reach += part.longest();
            }
            sumUp(begins[parts]);
        }

        private void sumUp(long[] ends) {
            long sum = 0;
            long moment = 0;
            for (int t = 0; t <= LAST_TENTH && t < ends.length; t++) {
                sum += ends[t];
                moment += ends[t] * t;
                ended[t] = sum;
                tenths[t] = moment;
            }
        }

        long all() {
            return ended[LAST_TENTH];
        }

        long allAhead(int p) {
            return within(p, 0, MOST_PARTS) ? choices[p] : 1;
        }

        long allBehind(int p) {
            long withIt = allAhead(p + 1);
            return withIt == 0 ? 0 : all() / withIt;
        }

        long beginning(int p, int t) {
            return within(p, 0, MOST_PARTS) && isTenth(t) ? begins[p][t] : 0;
        }

        long endingAt(int t) {
            return beginning(parts, t);
        }

        long endedBy(int t) {
            return t < 0 ? 0 : ended[Math.min(t, LAST_TENTH)];
        }

        long tenthsBy(int t) {
            return t < 0 ? 0 : tenths[Math.min(t, LAST_TENTH)];
        }

        int firstTenthWith(long weight) {
            for (int t = 0; t < LAST_TENTH; t++) {
                if (ended[t] >= weight) {
                    return t;
                }
            }
            return LAST_TENTH;
        }

        /** GO and LIFT are one sum: to go waits by E and needs no time; an arm waits by H and needs r. */
        long cost(int waiting, int late, int at, int delay) {
            long waited = tenthsBy(LAST_TENTH) - tenthsBy(at) - at * (all() - endedBy(at));
            int ready = at + delay;
            long missed = ready * endedBy(ready) - tenthsBy(ready);
            return waiting * waited + late * missed;
        }

        int cheapest(int waiting, int late, int delay) {
            int best = 0;
            long least = cost(waiting, late, 0, delay);
            for (int at = 1; at <= LAST_TENTH; at++) {
                long cost = cost(waiting, late, at, delay);
                if (cost < least) {
                    least = cost;
                    best = at;
                }
            }
            return best;
        }
    }

    /** SETS of PARTS that may have been left out, by the tenth of the end; weighed when first asked for. */
    private static final class LeftOut {
        final int[] sets = new int[LAST_TENTH + 1];
        final int[] sure = new int[LAST_TENTH + 1];
        final int[] likeliest = new int[LAST_TENTH + 1];
        private final long[] greatest = new long[LAST_TENTH + 1];
        private final long[][] rows = new long[MOST_PARTS + 1][LAST_TENTH + 1];
        private final int[] reach = new int[MOST_PARTS + 1];
        private boolean weighed;

        void forget() {
            weighed = false;
        }

        void weighOnce(Hall hall) {
            if (weighed) {
                return;
            }
            weighed = true;
            Arrays.fill(sets, 0);
            Arrays.fill(sure, 0);
            Arrays.fill(likeliest, NONE);
            Arrays.fill(greatest, 0);
            int parts = Math.min(hall.parts, MOST_PARTS);
            reach[parts] = 0;
            rows[parts][0] = 1;
            for (int set = 0; set < 1 << parts; set++) {
                // Rows go down from the last PART: only those up to the highest bit that has just changed are due again.
                int changed = Math.min(parts, Integer.bitCount(set ^ (set - 1)));
                for (int p = changed - 1; p >= 0; p--) {
                    choose(hall.row[p], p, (set >> p & 1) == 1);
                }
                note(set);
            }
        }

        private void choose(Part part, int p, boolean out) {
            int from = reach[p + 1];
            int to = Math.min(LAST_TENTH, out ? from : from + part.longest());
            for (int t = 0; t <= to; t++) {
                rows[p][t] = 0;
            }
            if (out) {
                part.addLeftOut(rows[p + 1], rows[p], from);
            } else {
                part.addPlayed(rows[p + 1], rows[p], from);
            }
            reach[p] = to;
        }

        private void note(int set) {
            for (int t = 0; t <= reach[0] && t <= LAST_TENTH; t++) {
                long weight = rows[0][t];
                if (weight > 0) {
                    sure[t] = sets[t] == 0 ? set : sure[t] & set;
                    sets[t]++;
                    if (weight > greatest[t]) {
                        greatest[t] = weight;
                        likeliest[t] = set;
                    }
                }
            }
        }
    }

    /** ENTRIES, in the order in which they were told. */
    private static final class Entries {
        final int[] who = new int[MOST_ENTRIES];
        final int[] when = new int[MOST_ENTRIES];
        int size;

        boolean put(int player, int tenth) {
            if (size >= MOST_ENTRIES) {
                return false;
            }
            who[size] = player;
            when[size] = tenth;
            size++;
            return true;
        }

        int first() {
            int best = NONE;
            for (int i = 0; i < size; i++) {
                if (best == NONE || isAhead(i, best)) {
                    best = i;
                }
            }
            return best;
        }

        private boolean isAhead(int i, int other) {
            return when[i] < when[other] || when[i] == when[other] && who[i] < who[other];
        }

        int aheadOf(int tenth) {
            int many = 0;
            for (int i = 0; i < size; i++) {
                if (when[i] < tenth) {
                    many++;
                }
            }
            return many;
        }
    }

    /** THE BOOK, line by line. */
    private static final class Book {
        final int[] which = new int[MOST_LINES];
        final int[] lasted = new int[MOST_LINES];
        int size;

        boolean put(int part, int length) {
            if (size >= MOST_LINES) {
                return false;
            }
            which[size] = part;
            lasted[size] = length;
            size++;
            return true;
        }

        int firstWrong(Hall hall) {
            int due = 0;
            for (int i = 0; i < size; i++) {
                if (which[i] != due || !canBe(hall, due, lasted[i])) {
                    return i;
                }
                due = due + 1 < hall.parts ? due + 1 : 0;
            }
            return NONE;
        }

        private static boolean canBe(Hall hall, int p, int length) {
            if (!hall.hasPart(p)) {
                return false;
            }
            Part part = hall.row[p];
            return length == 0 ? part.leftOutOf8 > 0 : part.hasLength(length);
        }
    }
}
