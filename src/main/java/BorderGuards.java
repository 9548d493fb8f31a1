import java.util.Arrays;

/** Where to stand on the border: a land of places and paths, posts on it, and those who carry past them. */
public final class BorderGuards {
    public static final int BAD = -1, NO = -2, FULL = -3, NONE = -4;

    private static final int MAX_BYTES = 400;
    private static final int MAX_PATHS = 12;
    private static final int MAX_TOWERS = 3;
    private static final int MAX_COIN = 300;
    private static final int MAX_WAYS = 400;
    // Eight places, none twice: no way has more paths than this.
    private static final int MAX_STEPS = 7;
    private static final int MAX_LOTS = 4;
    private static final int MAX_KEPT = 2;
    private static final int MAX_NIGHTS = 8;
    private static final int MAX_BITS = 15;
    private static final int GOAL = 7;
    private static final int ALL_HELD = (1 << MAX_PATHS) - 1;
    private static final int HELD_SETS = 1 << MAX_PATHS;
    private static final int NOT_TOLD = -1;
    private static final int BAD_LOT = -100;
    // Above all sums of loads, coin and waits; above all gains.
    private static final int ABOVE_ALL = 0x7fffffff;
    private static final long ABOVE_ALL_GAINS = 0x7fffffffffffffffL;
    private static final long NO_GAIN = -ABOVE_ALL_GAINS - 1;
    private static final long BAD_GAIN = NO_GAIN + 1;
    private static final long PARTS = 100000000000000L;

    // What is told of a path, by its number in the text.
    private static final int FROM = 0, TO = 1, LOADS = 2, CARRYING = 3, COIN = 4, STOPS = 5, WAIT = 6;
    private static final int PATH_NUMBERS = 7;
    private static final int TOWER_NUMBERS = 3;

    private final Script script = new Script();
    private final Land draft = new Land();
    private final Land land = new Land();
    private final Cuts cuts = new Cuts();
    private final Ways ways = new Ways();
    private final Plans plans = new Plans();
    private final Lots lots = new Lots();
    private final Game game = new Game();
    private final Rounds rounds = new Rounds();
    private final int[] loadRow = new int[MAX_PATHS];
    private final int[] tenthRow = new int[MAX_LOTS];
    private final Land[] keptLands = new Land[MAX_KEPT];
    private final Lots[] keptLots = new Lots[MAX_KEPT];
    private int keptCount;

    // No survey: for a land without paths all rows of cuts, ways and plans are 0, as they are when made.
    public BorderGuards() {
        for (int i = 0; i < MAX_KEPT; i++) {
            keptLands[i] = new Land();
            keptLots[i] = new Lots();
        }
        keptCount = 0;
    }

    // ---- lands

    public int write(int n, long v) {
        if (n < 1 || n > 8) {
            return BAD;
        }
        if (!script.hasRoomFor(n)) {
            return FULL;
        }
        script.append(n, v);
        return script.length;
    }

    public int wipe() {
        int was = script.length;
        script.length = 0;
        return was;
    }

    public int fault() {
        int place = script.readInto(draft);
        return place < 0 ? NONE : place;
    }

    public int lay() {
        if (script.readInto(draft) >= 0) {
            return NO;
        }
        land.copy(draft);
        lots.clear();
        Arrays.fill(tenthRow, 0);
        Arrays.fill(loadRow, 0);
        survey();
        return land.pathCount;
    }

    public int path(int path, int what) {
        if (!land.hasPath(path) || what < 0 || what >= PATH_NUMBERS) {
            return BAD;
        }
        return land.paths[path][what];
    }

    public int posts(int posts, int what) {
        if (!land.hasPosts(posts) || what < 0 || what > 2) {
            return BAD;
        }
        if (what == 0) {
            return land.costOf(posts);
        }
        int held = land.heldBy(posts);
        return what == 1 ? held : land.waitsOf(held);
    }

    public int bears(int posts, int path) {
        if (!land.hasPosts(posts) || !land.hasPath(path)) {
            return BAD;
        }
        return land.bearing(path, land.heldBy(posts), 0);
    }

    // ---- most

    public int most(int posts, int what) {
        if (!land.hasPosts(posts) || what < 0 || what > 2) {
            return BAD;
        }
        int most = mostBy(posts, NOT_TOLD);
        if (what == 0) {
            return most;
        }
        return what == 1 ? cuts.shore : cuts.outOfShore();
    }

    public int row(int path, int loads) {
        if (path < 0 || path >= MAX_PATHS || loads < 0 || loads > 99) {
            return BAD;
        }
        int was = loadRow[path];
        loadRow[path] = loads;
        return was;
    }

    public int judge(int posts) {
        if (!land.hasPosts(posts)) {
            return BAD;
        }
        int held = land.heldBy(posts);
        for (int p = 0; p < MAX_PATHS; p++) {
            if (loadRow[p] > land.bearing(p, held, 0)) {
                return p;
            }
        }
        for (int place = 1; place < GOAL; place++) {
            if (land.comesMoreThanGoes(place, loadRow) != 0) {
                return 100 + place;
            }
        }
        int arrived = land.comesMoreThanGoes(GOAL, loadRow);
        return arrived < 0 ? 199 : 200 + arrived;
    }

    public int best(int coin, int what) {
        if (coin < 0 || coin > MAX_COIN || what < 0 || what > 2) {
            return BAD;
        }
        plans.prepare(land, cuts);
        if (what == 1) {
            return plans.leastFor(coin);
        }
        int posts = plans.bestFor(coin);
        return what == 0 ? posts : land.costOf(posts);
    }

    public int fewest(int l) {
        if (l < 0 || l > 9999) {
            return BAD;
        }
        plans.prepare(land, cuts);
        for (int coin = 0; coin <= MAX_COIN; coin++) {
            if (plans.leastFor(coin) <= l) {
                return coin;
            }
        }
        return NONE;
    }

    public int more() {
        plans.prepare(land, cuts);
        return plans.leastFor(land.coin) - plans.leastFor(land.coin + 1);
    }

    public int oneMore(int posts, int path) {
        if (!land.hasPosts(posts) || !land.hasPath(path)) {
            return BAD;
        }
        int with = mostBy(posts, path);
        return with - mostBy(posts, NOT_TOLD);
    }

    public int weighed(int a, int b, int what) {
        if (a < 0 || a > 99 || b < 0 || b > 99 || what < 0 || what > 1) {
            return BAD;
        }
        plans.prepare(land, cuts);
        plans.weigh(land, a, b);
        return what == 0 ? plans.foundPosts : plans.foundSum;
    }

    // ---- ways

    public int way(int w, int i) {
        if (w < -1 || i < -1) {
            return BAD;
        }
        if (w == -1) {
            return ways.size;
        }
        if (w >= ways.size) {
            return NONE;
        }
        int length = ways.lengthOf(w);
        if (i == -1) {
            return length;
        }
        return i < length ? ways.pathAt(w, i) : NONE;
    }

    public int through(int posts, int w) {
        if (!land.hasPosts(posts) || w < 0) {
            return BAD;
        }
        if (w >= ways.size) {
            return NONE;
        }
        return ways.leastBearing(land, land.heldBy(posts), w);
    }

    public long gain(int posts, int w) {
        if (!land.hasPosts(posts) || w < 0) {
            return BAD_GAIN;
        }
        if (w >= ways.size) {
            return NO_GAIN;
        }
        return ways.gainOf(land, land.heldBy(posts), w);
    }

    public int bestWay(int posts, int what) {
        if (!land.hasPosts(posts) || what < 0 || what > 1) {
            return BAD;
        }
        if (ways.size == 0) {
            return NONE;
        }
        int held = land.heldBy(posts);
        int first = ways.bestOf(land, held);
        if (what == 0) {
            return first;
        }
        return ways.gainOf(land, held, first) > land.other * PARTS ? 1 : 0;
    }

    public int leastPay() {
        plans.prepare(land, cuts);
        return plans.leastPaying(land, ways);
    }

    // ---- lots

    public int guard(int g, int posts) {
        if (g < 0 || g >= MAX_LOTS || posts != NOT_TOLD && !land.hasPosts(posts)) {
            return BAD_LOT;
        }
        int was = lots.guards[g];
        lots.guards[g] = posts;
        return was;
    }

    public int carrier(int c, int w) {
        if (c < 0 || c >= MAX_LOTS || w < NOT_TOLD || w >= ways.size) {
            return BAD_LOT;
        }
        int was = lots.carriers[c];
        lots.carriers[c] = w;
        return was;
    }

    public long value(int part) {
        if (part < 0 || part > 1) {
            return BAD;
        }
        if (!playGame()) {
            return NO;
        }
        return game.lowest(game.valueParts, part);
    }

    public long chance(int side, int k, int part) {
        if (side < 0 || side > 1 || k < 0 || k >= MAX_LOTS || part < 0 || part > 1) {
            return BAD;
        }
        int told = side == 0 ? lots.guards[k] : lots.carriers[k];
        if (told == NOT_TOLD) {
            return BAD;
        }
        if (!playGame()) {
            return NO;
        }
        return game.lowest(side == 0 ? game.guardParts[k] : game.carrierParts[k], part);
    }

    public int tenths(int g, int p) {
        if (g < 0 || g >= MAX_LOTS || p < 0 || p > 10) {
            return BAD;
        }
        int was = tenthRow[g];
        tenthRow[g] = p;
        return was;
    }

    public int told() {
        if (lots.toldCarriers() == 0) {
            return NO;
        }
        int together = 0;
        for (int g = 0; g < MAX_LOTS; g++) {
            if (tenthRow[g] > 0 && lots.guards[g] == NOT_TOLD) {
                return NO;
            }
            together += tenthRow[g];
        }
        if (together != 10) {
            return NO;
        }
        setUpGame();
        return game.worthOfBeingTold(tenthRow);
    }

    public int nights(int n, int d) {
        if (n < 1 || n > MAX_NIGHTS || d < 0 || d > MAX_BITS) {
            return BAD;
        }
        if (lots.toldGuards() == 0) {
            return NO;
        }
        for (int g = 0; g < MAX_LOTS; g++) {
            int posts = lots.guards[g];
            rounds.begin(g, posts, posts == NOT_TOLD ? Rounds.NEVER : mostBy(posts, NOT_TOLD));
        }
        int sum = rounds.leastSum(n, d, Integer.bitCount(lots.toldGuards()) == 1);
        return sum == Rounds.NEVER ? NONE : sum;
    }

    public int keep() {
        if (keptCount >= MAX_KEPT) {
            return FULL;
        }
        keptLands[keptCount].copy(land);
        keptLots[keptCount].copy(lots);
        keptCount++;
        return keptCount;
    }

    public int back() {
        if (keptCount <= 0) {
            return NO;
        }
        keptCount--;
        land.copy(keptLands[keptCount]);
        lots.copy(keptLots[keptCount]);
        survey();
        return keptCount;
    }

    public int count(int what) {
        switch (what) {
            case 0:
                return land.pathCount;
            case 1:
                return land.towerCount;
            case 2:
                return land.coin;
            case 3:
                return land.worth;
            case 4:
                return land.other;
            case 5:
                return script.length;
            case 6:
                return keptCount;
            default:
                return BAD;
        }
    }

    // ---- what several calls need

    private void survey() {
        cuts.survey(land);
        ways.survey(land);
        plans.forget();
    }

    private int mostBy(int posts, int oneMorePath) {
        cuts.weigh(land, land.heldBy(posts), oneMorePath);
        return cuts.least;
    }

    private boolean playGame() {
        setUpGame();
        return game.findSupport(lots.toldGuards(), lots.toldCarriers());
    }

    private void setUpGame() {
        for (int g = 0; g < MAX_LOTS; g++) {
            int posts = lots.guards[g];
            int held = posts == NOT_TOLD ? 0 : land.heldBy(posts);
            for (int c = 0; c < MAX_LOTS; c++) {
                int w = lots.carriers[c];
                boolean both = posts != NOT_TOLD && w >= 0 && w < ways.size;
                game.brings[g][c] = both ? ways.leastBearing(land, held, w) : 0;
            }
        }
    }

    /** THE TEXT: its bytes, and how they are read. */
    static final class Script {
        private final int[] bytes = new int[MAX_BYTES];
        private final int[] numbers = new int[PATH_NUMBERS];
        private int at;
        int length;

        boolean hasRoomFor(int n) {
            return n <= MAX_BYTES - length;
        }

        void append(int n, long v) {
            for (int left = n - 1; left >= 0 && length < MAX_BYTES; left--) {
                bytes[length] = (int) (v >>> (8 * left)) & 255;
                length++;
            }
        }

        /** Where the first item begins that is not so; -1 if the whole text is now the land. */
        int readInto(Land land) {
            land.clear();
            at = 0;
            for (int items = 0; items < MAX_BYTES && at < length; items++) {
                int start = at;
                int letter = nextByte();
                int size = readNumbers();
                if (!land.takes(letter, numbers, size)) {
                    return start;
                }
            }
            return -1;
        }

        /** How many numbers there are up to the end of the item; -1 if it does not end as it must. */
        private int readNumbers() {
            for (int size = 0; size < PATH_NUMBERS; size++) {
                int number = readNumber();
                int sign = nextByte();
                if (number < 0 || sign != ',' && sign != ';') {
                    return -1;
                }
                numbers[size] = number;
                if (sign == ';') {
                    return size + 1;
                }
            }
            return -1;
        }

        private int readNumber() {
            int number = -1;
            for (int figures = 0; figures < 3 && at >= 0 && at < length && isFigure(bytes[at]); figures++) {
                number = Math.max(number, 0) * 10 + bytes[at] - '0';
                at++;
            }
            return number;
        }

        private int nextByte() {
            if (at < 0 || at >= length) {
                return -1;
            }
            int sign = bytes[at];
            at++;
            return sign;
        }

        private static boolean isFigure(int sign) {
            return sign >= '0' && sign <= '9';
        }
    }

    /** THE LAND: its paths, towers and coin. A path that is not there bears 0 and goes from 0 to 0. */
    static final class Land {
        private static final int MAX_POST_COIN = 20;
        private static final int[] PATH_LIMITS = {GOAL, GOAL, 99, 99, MAX_POST_COIN, 100, 99};

        final int[][] paths = new int[MAX_PATHS][PATH_NUMBERS];
        private final int[] towerSees = new int[MAX_TOWERS];
        private final int[] towerCost = new int[MAX_TOWERS];
        int pathCount;
        int towerCount;
        int coin;
        int worth;
        int other;

        Land() {
            clear();
        }

        void clear() {
            for (int p = 0; p < MAX_PATHS; p++) {
                Arrays.fill(paths[p], 0);
            }
            Arrays.fill(towerSees, 0);
            Arrays.fill(towerCost, 0);
            pathCount = 0;
            towerCount = 0;
            coin = 0;
            worth = 100;
            other = 0;
        }

        void copy(Land from) {
            for (int p = 0; p < MAX_PATHS; p++) {
                System.arraycopy(from.paths[p], 0, paths[p], 0, PATH_NUMBERS);
            }
            System.arraycopy(from.towerSees, 0, towerSees, 0, MAX_TOWERS);
            System.arraycopy(from.towerCost, 0, towerCost, 0, MAX_TOWERS);
            pathCount = from.pathCount;
            towerCount = from.towerCount;
            coin = from.coin;
            worth = from.worth;
            other = from.other;
        }

        /** Adds what an item tells; false if the item is not so. */
        boolean takes(int letter, int[] numbers, int size) {
            if (numbers.length < PATH_NUMBERS) {
                return false;
            }
            switch (letter) {
                case 'p':
                    return size == PATH_NUMBERS && takesPath(numbers);
                case 't':
                    return size == TOWER_NUMBERS && takesTower(numbers[0], numbers[1], numbers[2]);
                default:
                    return size == 1 && takesNumber(letter, numbers[0]);
            }
        }

        private boolean takesNumber(int letter, int number) {
            switch (letter) {
                case 'c':
                    coin = number;
                    return number <= MAX_COIN;
                case 'v':
                    worth = number;
                    return true;
                case 'o':
                    other = number;
                    return true;
                default:
                    return false;
            }
        }

        private boolean takesPath(int[] numbers) {
            if (pathCount >= MAX_PATHS || numbers[FROM] == numbers[TO]) {
                return false;
            }
            for (int i = 0; i < PATH_NUMBERS; i++) {
                if (numbers[i] > PATH_LIMITS[i]) {
                    return false;
                }
                paths[pathCount][i] = numbers[i];
            }
            pathCount++;
            return true;
        }

        private boolean takesTower(int one, int two, int cost) {
            if (towerCount >= MAX_TOWERS || one == two || cost > MAX_POST_COIN || !hasPath(one) || !hasPath(two)) {
                return false;
            }
            towerSees[towerCount] = 1 << one | 1 << two;
            towerCost[towerCount] = cost;
            towerCount++;
            return true;
        }

        boolean hasPath(int path) {
            return path >= 0 && path < pathCount && path < MAX_PATHS;
        }

        boolean hasPosts(int posts) {
            int there = (1 << pathCount) - 1 | (1 << towerCount) - 1 << MAX_PATHS;
            return (posts & ~there) == 0;
        }

        int costOf(int posts) {
            int cost = 0;
            for (int p = 0; p < MAX_PATHS; p++) {
                cost += (posts >> p & 1) * paths[p][COIN];
            }
            for (int t = 0; t < MAX_TOWERS; t++) {
                cost += (posts >> MAX_PATHS + t & 1) * towerCost[t];
            }
            return cost;
        }

        int heldBy(int posts) {
            int held = posts & ALL_HELD;
            for (int t = 0; t < MAX_TOWERS; t++) {
                if ((posts >> MAX_PATHS + t & 1) != 0) {
                    held |= towerSees[t];
                }
            }
            return held;
        }

        int waitsOf(int held) {
            int waits = 0;
            for (int p = 0; p < MAX_PATHS; p++) {
                waits += (held >> p & 1) * paths[p][WAIT];
            }
            return waits;
        }

        /** What a path bears, if it had so many loads besides what the text tells. */
        int bearing(int path, int held, int besides) {
            if (path < 0 || path >= MAX_PATHS) {
                return 0;
            }
            return (paths[path][LOADS] + besides) * hundredthsThrough(path, held) / 100;
        }

        /** How many hundredths of what is carried over a path come through. */
        int hundredthsThrough(int path, int held) {
            boolean isHeld = path >= 0 && path < MAX_PATHS && (held >> path & 1) != 0;
            return isHeld ? 100 - paths[path][STOPS] : 100;
        }

        int carryingOn(int path) {
            return path >= 0 && path < MAX_PATHS ? paths[path][CARRYING] : 0;
        }

        int comesMoreThanGoes(int place, int[] loads) {
            int more = 0;
            for (int p = 0; p < pathCount && p < MAX_PATHS && p < loads.length; p++) {
                if (paths[p][TO] == place) {
                    more += loads[p];
                }
                if (paths[p][FROM] == place) {
                    more -= loads[p];
                }
            }
            return more;
        }
    }

    /**
     * All ways to part 0 from 7. As much comes through at most as the narrowest of them bears, and
     * what all the narrowest have on the side of 0 is the shore: so no loads need to be sent.
     */
    static final class Cuts {
        // The places 1 to 6 stand on the one side or on the other.
        static final int CUTS = 64;

        final int[] pathsOut = new int[CUTS];
        private final int[] bearings = new int[MAX_PATHS];
        int least;
        int shore;

        void survey(Land land) {
            for (int cut = 0; cut < CUTS; cut++) {
                int places = placesOf(cut);
                int out = 0;
                for (int p = 0; p < land.pathCount && p < MAX_PATHS; p++) {
                    boolean from = (places >> land.paths[p][FROM] & 1) != 0;
                    boolean to = (places >> land.paths[p][TO] & 1) != 0;
                    if (from && !to) {
                        out |= 1 << p;
                    }
                }
                pathsOut[cut] = out;
            }
        }

        void weigh(Land land, int held, int oneMorePath) {
            for (int p = 0; p < MAX_PATHS; p++) {
                bearings[p] = land.bearing(p, held, p == oneMorePath ? 1 : 0);
            }
            least = ABOVE_ALL;
            // What the narrowest have in common is one of them, and by its bits the first.
            for (int cut = 0; cut < CUTS; cut++) {
                int borne = sumOver(pathsOut[cut]);
                if (borne < least) {
                    least = borne;
                    shore = placesOf(cut);
                }
            }
        }

        int outOfShore() {
            return pathsOut[shore >> 1 & CUTS - 1];
        }

        /** A cut of which another is a part, or that another is like, is never needed for the least. */
        boolean isNeeded(int cut) {
            if (cut < 0 || cut >= CUTS) {
                return false;
            }
            for (int second = 0; second < CUTS; second++) {
                boolean isPart = (pathsOut[second] & ~pathsOut[cut]) == 0;
                if (isPart && (pathsOut[second] != pathsOut[cut] || second < cut)) {
                    return false;
                }
            }
            return true;
        }

        private int sumOver(int paths) {
            int sum = 0;
            for (int p = 0; p < MAX_PATHS; p++) {
                sum += (paths >> p & 1) * bearings[p];
            }
            return sum;
        }

        private static int placesOf(int cut) {
            return cut << 1 | 1;
        }
    }

    /** All ways from 0 to 7, in order. */
    static final class Ways {
        private final int[] steps = new int[MAX_WAYS * MAX_STEPS];
        private final int[] lengths = new int[MAX_WAYS];
        private final int[] carrying = new int[MAX_WAYS];
        private final int[] trail = new int[MAX_STEPS];
        private int hardest;
        int size;

        void survey(Land land) {
            size = 0;
            hardest = 0;
            follow(this, land, 0, 1, 0);
        }

        private static void follow(Ways ways, Land land, int place, int seen, int depth) {
            if (place == GOAL) {
                ways.add(land, depth);
                return;
            }
            if (depth >= MAX_STEPS) {
                return;
            }
            for (int p = 0; p < land.pathCount && p < MAX_PATHS; p++) {
                int next = land.paths[p][TO];
                if (land.paths[p][FROM] == place && (seen >> next & 1) == 0) {
                    ways.trail[depth] = p;
                    follow(ways, land, next, seen | 1 << next, depth + 1);
                }
            }
        }

        private void add(Land land, int length) {
            if (size < 0 || size >= MAX_WAYS) {
                return;
            }
            int carried = 0;
            for (int i = 0; i < length && i < MAX_STEPS; i++) {
                int p = trail[i];
                carried += land.carryingOn(p);
                steps[size * MAX_STEPS + i] = p;
            }
            lengths[size] = length;
            carrying[size] = carried;
            size++;
        }

        int lengthOf(int w) {
            return w >= 0 && w < MAX_WAYS ? lengths[w] : 0;
        }

        int pathAt(int w, int i) {
            return w >= 0 && w < MAX_WAYS && i >= 0 && i < MAX_STEPS ? steps[w * MAX_STEPS + i] : 0;
        }

        int leastBearing(Land land, int held, int w) {
            int least = ABOVE_ALL;
            int length = lengthOf(w);
            for (int i = 0; i < length && i < MAX_STEPS; i++) {
                least = Math.min(least, land.bearing(pathAt(w, i), held, 0));
            }
            return least;
        }

        long gainOf(Land land, int held, int w) {
            if (w < 0 || w >= MAX_WAYS) {
                return NO_GAIN;
            }
            long share = land.worth * PARTS;
            for (int i = 0; i < lengths[w] && i < MAX_STEPS; i++) {
                // There are parts for the hundredths of seven paths, so nothing is cut off here.
                share = share / 100 * land.hundredthsThrough(pathAt(w, i), held);
            }
            return share - carrying[w] * PARTS;
        }

        int bestOf(Land land, int held) {
            int first = 0;
            long greatest = gainOf(land, held, 0);
            for (int w = 1; w < size && w < MAX_WAYS; w++) {
                long gain = gainOf(land, held, w);
                if (gain > greatest) {
                    greatest = gain;
                    first = w;
                }
            }
            return first;
        }

        /** The greatest gain of all ways, or any that is above the limit as soon as there is one. */
        long greatestGain(Land land, int held, long limit) {
            if (size <= 0) {
                return land.other * PARTS;
            }
            // The way that was hardest to hold down before is so again, most likely: it is looked at first.
            long greatest = gainOf(land, held, hardest);
            for (int w = 0; w < size && w < MAX_WAYS && greatest <= limit; w++) {
                long gain = gainOf(land, held, w);
                if (gain > greatest) {
                    greatest = gain;
                    hardest = w;
                }
            }
            return greatest;
        }
    }

    /**
     * What all sets of posts do, found once for a land: sets that hold the same paths are alike but
     * for their cost, so most tables are by the paths that are held.
     */
    static final class Plans {
        private static final int UNSET = -1;

        private final int[] mostByHeld = new int[HELD_SETS];
        private final int[] affordable = new int[HELD_SETS];
        private final int[] sums = new int[HELD_SETS];
        private final int[] addends = new int[MAX_PATHS];
        private final int[] bestPosts = new int[MAX_COIN + 1];
        private final int[] bestMost = new int[MAX_COIN + 1];
        private int sets;
        private boolean ready;
        private int paying;
        private boolean payingReady;
        int foundPosts;
        int foundSum;

        void forget() {
            ready = false;
            payingReady = false;
        }

        void prepare(Land land, Cuts cuts) {
            if (ready) {
                return;
            }
            sets = Math.min(1 << land.pathCount, HELD_SETS);
            Arrays.fill(mostByHeld, ABOVE_ALL);
            Arrays.fill(affordable, UNSET);
            Arrays.fill(bestPosts, UNSET);
            Arrays.fill(bestMost, ABOVE_ALL);
            for (int cut = 0; cut < Cuts.CUTS; cut++) {
                if (cuts.isNeeded(cut)) {
                    lowerMost(land, cuts.pathsOut[cut]);
                }
            }
            sumNumbers(land, COIN);
            for (int towers = 0; towers < 1 << land.towerCount && towers < 1 << MAX_TOWERS; towers++) {
                offerAll(land, towers << MAX_PATHS);
            }
            spreadBest();
            ready = true;
        }

        int bestFor(int coin) {
            return bestPosts[Math.max(0, Math.min(coin, MAX_COIN))];
        }

        int leastFor(int coin) {
            return bestMost[Math.max(0, Math.min(coin, MAX_COIN))];
        }

        private void lowerMost(Land land, int cutPaths) {
            int free = 0;
            for (int p = 0; p < MAX_PATHS; p++) {
                int cut = cutPaths >> p & 1;
                int bears = cut * land.bearing(p, 0, 0);
                addends[p] = cut * land.bearing(p, ALL_HELD, 0) - bears;
                free += bears;
            }
            sumAddends(free);
            for (int held = 0; held < sets; held++) {
                if (sums[held] < mostByHeld[held]) {
                    mostByHeld[held] = sums[held];
                }
            }
        }

        private void sumNumbers(Land land, int number) {
            for (int p = 0; p < MAX_PATHS; p++) {
                addends[p] = land.paths[p][number];
            }
            sumAddends(0);
        }

        /** For each set of paths what its paths add to the start. */
        private void sumAddends(int start) {
            sums[0] = start;
            for (int p = 0; p < MAX_PATHS; p++) {
                int bit = 1 << p;
                int addend = addends[p];
                for (int set = bit; set < 2 * bit && set < sets; set++) {
                    sums[set] = sums[set - bit] + addend;
                }
            }
        }

        /** Looks at all posts with these towers, in the order of their bits: so the first of several stays. */
        private void offerAll(Land land, int towers) {
            int seen = land.heldBy(towers);
            int towersCost = land.costOf(towers);
            for (int paths = 0; paths < sets; paths++) {
                int held = (paths | seen) & ALL_HELD;
                int cost = towersCost + sums[paths];
                if (cost <= land.coin && affordable[held] == UNSET) {
                    affordable[held] = paths | towers;
                }
                if (cost >= 0 && cost <= MAX_COIN && mostByHeld[held] < bestMost[cost]) {
                    bestMost[cost] = mostByHeld[held];
                    bestPosts[cost] = paths | towers;
                }
            }
        }

        /** What is best for some coin may be best for more coin too. */
        private void spreadBest() {
            for (int coin = 1; coin <= MAX_COIN; coin++) {
                int less = coin - 1;
                boolean alike = bestMost[less] == bestMost[coin];
                if (bestMost[less] < bestMost[coin] || alike && bestPosts[less] < bestPosts[coin]) {
                    bestMost[coin] = bestMost[less];
                    bestPosts[coin] = bestPosts[less];
                }
            }
        }

        void weigh(Land land, int a, int b) {
            sumNumbers(land, WAIT);
            foundPosts = UNSET;
            foundSum = ABOVE_ALL;
            for (int held = 0; held < sets; held++) {
                int posts = affordable[held];
                if (posts != UNSET) {
                    int sum = a * mostByHeld[held] + b * sums[held];
                    if (sum < foundSum || sum == foundSum && posts < foundPosts) {
                        foundPosts = posts;
                        foundSum = sum;
                    }
                }
            }
        }

        int leastPaying(Land land, Ways ways) {
            if (payingReady) {
                return paying;
            }
            paying = 0;
            long least = ABOVE_ALL_GAINS;
            for (int held = 0; held < sets; held++) {
                int posts = affordable[held];
                if (posts != UNSET) {
                    // As much will do for lower bits alone.
                    long limit = posts < paying ? least : least - 1;
                    long greatest = ways.greatestGain(land, held, limit);
                    if (greatest <= limit) {
                        least = greatest;
                        paying = posts;
                    }
                }
            }
            payingReady = true;
            return paying;
        }
    }

    /** The guards (posts) and carriers (ways) that are told to take part. */
    static final class Lots {
        final int[] guards = new int[MAX_LOTS];
        final int[] carriers = new int[MAX_LOTS];

        Lots() {
            clear();
        }

        void clear() {
            Arrays.fill(guards, NOT_TOLD);
            Arrays.fill(carriers, NOT_TOLD);
        }

        void copy(Lots from) {
            System.arraycopy(from.guards, 0, guards, 0, MAX_LOTS);
            System.arraycopy(from.carriers, 0, carriers, 0, MAX_LOTS);
        }

        int toldGuards() {
            return toldOf(guards);
        }

        int toldCarriers() {
            return toldOf(carriers);
        }

        private static int toldOf(int[] side) {
            int told = 0;
            for (int k = 0; k < MAX_LOTS && k < side.length; k++) {
                if (side[k] != NOT_TOLD) {
                    told |= 1 << k;
                }
            }
            return told;
        }
    }

    /** What each carrier brings by each guard, and the chances by which each side does its best. */
    static final class Game {
        private static final int SETS = 1 << MAX_LOTS;
        private static final int MAX_REST = MAX_LOTS - 1;

        final int[][] brings = new int[MAX_LOTS][MAX_LOTS];
        final long[] guardParts = new long[MAX_LOTS];
        final long[] carrierParts = new long[MAX_LOTS];
        private final long[][] rest = new long[MAX_REST][MAX_REST];
        private long whole;
        long valueParts;

        boolean findSupport(int toldGuards, int toldCarriers) {
            for (int size = 1; size <= MAX_LOTS; size++) {
                for (int guards = 1; guards < SETS; guards++) {
                    if (isSetOf(guards, toldGuards, size) && findCarriers(guards, toldGuards, toldCarriers, size)) {
                        return true;
                    }
                }
            }
            return false;
        }

        private boolean findCarriers(int guards, int toldGuards, int toldCarriers, int size) {
            for (int carriers = 1; carriers < SETS; carriers++) {
                if (isSetOf(carriers, toldCarriers, size) && mixes(guards, carriers)) {
                    // All guards of the set are alike, so any one tells the value.
                    valueParts = meanBy(Integer.numberOfTrailingZeros(guards));
                    if (noneDoesBetter(toldGuards, toldCarriers)) {
                        return true;
                    }
                }
            }
            return false;
        }

        private static boolean isSetOf(int set, int told, int size) {
            return (set & ~told) == 0 && Integer.bitCount(set) == size;
        }

        /**
         * Finds the chances that make all of both sets alike. With the signed minors of the square
         * they are: a guard's its line's sum by the sum of all, a carrier's its column's; there is
         * just one such way if the sum of all is not 0.
         */
        private boolean mixes(int guards, int carriers) {
            Arrays.fill(guardParts, 0L);
            Arrays.fill(carrierParts, 0L);
            whole = 0;
            for (int g = 0; g < MAX_LOTS; g++) {
                for (int c = 0; c < MAX_LOTS; c++) {
                    if ((guards >> g & 1) != 0 && (carriers >> c & 1) != 0) {
                        long minor = signedMinor(guards, carriers, g, c);
                        guardParts[g] += minor;
                        carrierParts[c] += minor;
                        whole += minor;
                    }
                }
            }
            if (whole == 0) {
                return false;
            }
            if (whole < 0) {
                turnSigns();
            }
            return areAllAbove0(guardParts, guards) && areAllAbove0(carrierParts, carriers);
        }

        private void turnSigns() {
            whole = -whole;
            for (int k = 0; k < MAX_LOTS; k++) {
                guardParts[k] = -guardParts[k];
                carrierParts[k] = -carrierParts[k];
            }
        }

        private static boolean areAllAbove0(long[] parts, int set) {
            for (int k = 0; k < MAX_LOTS && k < parts.length; k++) {
                if ((set >> k & 1) != 0 && parts[k] <= 0) {
                    return false;
                }
            }
            return true;
        }

        private long signedMinor(int guards, int carriers, int guard, int carrier) {
            int line = 0;
            for (int g = 0; g < MAX_LOTS; g++) {
                if ((guards >> g & 1) != 0 && g != guard && line < MAX_REST) {
                    fillLine(line, g, carriers & ~(1 << carrier));
                    line++;
                }
            }
            int ahead = Integer.bitCount(guards & (1 << guard) - 1) + Integer.bitCount(carriers & (1 << carrier) - 1);
            long minor = minorOf(line);
            return (ahead & 1) == 0 ? minor : -minor;
        }

        private void fillLine(int line, int guard, int carriers) {
            int column = 0;
            for (int c = 0; c < MAX_LOTS; c++) {
                if ((carriers >> c & 1) != 0 && column < MAX_REST) {
                    rest[line][column] = brings[guard][c];
                    column++;
                }
            }
        }

        private long minorOf(int size) {
            switch (size) {
                case 0:
                    return 1;
                case 1:
                    return rest[0][0];
                case 2:
                    return rest[0][0] * rest[1][1] - rest[0][1] * rest[1][0];
                default:
                    return rest[0][0] * (rest[1][1] * rest[2][2] - rest[1][2] * rest[2][1])
                            - rest[0][1] * (rest[1][0] * rest[2][2] - rest[1][2] * rest[2][0])
                            + rest[0][2] * (rest[1][0] * rest[2][1] - rest[1][1] * rest[2][0]);
            }
        }

        private boolean noneDoesBetter(int toldGuards, int toldCarriers) {
            for (int k = 0; k < MAX_LOTS; k++) {
                if ((toldGuards >> k & 1) != 0 && meanBy(k) < valueParts) {
                    return false;
                }
                if ((toldCarriers >> k & 1) != 0 && meanOf(k) > valueParts) {
                    return false;
                }
            }
            return true;
        }

        private long meanBy(int guard) {
            long mean = 0;
            for (int c = 0; c < MAX_LOTS && guard >= 0 && guard < MAX_LOTS; c++) {
                mean += carrierParts[c] * brings[guard][c];
            }
            return mean;
        }

        private long meanOf(int carrier) {
            long mean = 0;
            for (int g = 0; g < MAX_LOTS && carrier >= 0 && carrier < MAX_LOTS; g++) {
                mean += guardParts[g] * brings[g][carrier];
            }
            return mean;
        }

        /** A number of the parts that make one whole, as a fraction in lowest terms: above (0) or below. */
        long lowest(long parts, int part) {
            long a = parts;
            long b = whole;
            for (int i = 0; i < 200 && b != 0; i++) {
                long left = a % b;
                a = b;
                b = left;
            }
            if (a == 0) {
                return part;
            }
            return part == 0 ? parts / a : whole / a;
        }

        int worthOfBeingTold(int[] tenths) {
            int informed = 0;
            int blind = 0;
            for (int k = 0; k < MAX_LOTS && k < tenths.length; k++) {
                int greatest = 0;
                int mean = 0;
                for (int j = 0; j < MAX_LOTS && j < tenths.length; j++) {
                    greatest = Math.max(greatest, brings[k][j]);
                    mean += tenths[j] * brings[j][k];
                }
                informed += tenths[k] * greatest;
                blind = Math.max(blind, mean);
            }
            return informed - blind;
        }
    }

    /** Nights one behind the other, each with one of the guards. */
    static final class Rounds {
        static final int NEVER = ABOVE_ALL;

        private final int[] postsOf = new int[MAX_LOTS];
        private final int[] costOf = new int[MAX_LOTS];
        private final int[] sums = new int[MAX_LOTS];
        private final int[] nextSums = new int[MAX_LOTS];

        /** What one night with this guard lets through; NEVER for one that does not take part. */
        void begin(int guard, int posts, int comesThrough) {
            if (guard >= 0 && guard < MAX_LOTS) {
                postsOf[guard] = posts;
                costOf[guard] = comesThrough;
                sums[guard] = comesThrough;
            }
        }

        int leastSum(int nights, int bits, boolean isAlone) {
            for (int night = 1; night < nights && night < MAX_NIGHTS; night++) {
                for (int g = 0; g < MAX_LOTS; g++) {
                    int before = leastBefore(g, bits, isAlone);
                    nextSums[g] = before == NEVER || costOf[g] == NEVER ? NEVER : before + costOf[g];
                }
                System.arraycopy(nextSums, 0, sums, 0, MAX_LOTS);
            }
            int least = NEVER;
            for (int g = 0; g < MAX_LOTS; g++) {
                least = Math.min(least, sums[g]);
            }
            return least;
        }

        private int leastBefore(int guard, int bits, boolean isAlone) {
            int least = NEVER;
            for (int g = 0; g < MAX_LOTS && guard >= 0 && guard < MAX_LOTS; g++) {
                boolean mayFollow = isAlone || g != guard;
                if (mayFollow && Integer.bitCount(postsOf[g] ^ postsOf[guard]) <= bits) {
                    least = Math.min(least, sums[g]);
                }
            }
            return least;
        }
    }
}
