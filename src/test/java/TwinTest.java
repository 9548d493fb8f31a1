import java.math.BigInteger;
import java.nio.charset.StandardCharsets;
import java.util.ArrayList;
import java.util.Arrays;
import java.util.List;
import java.util.regex.Matcher;
import java.util.regex.Pattern;

/**
 * Runs random calls on a BorderGuards and on a twin that is written in another way (loads really
 * sent, every set of posts tried, fractions), and prints each call in which they differ.
 */
public final class TwinTest {
    private static int wrong = 0;
    private static long seed = 20261118L;

    private static int random(int bound) {
        seed = seed * 6364136223846793005L + 1442695040888963407L;
        return (int) ((seed >>> 33) % bound);
    }

    /** A number from low to high, or now and then one outside. */
    private static int about(int low, int high) {
        if (random(25) == 0) {
            int[] outside = {low - 1, high + 1, Integer.MIN_VALUE, Integer.MAX_VALUE};
            return outside[random(4)];
        }
        return low + random(high - low + 1);
    }

    // ---------------------------------------------------------------- the twin

    private static final class Twin {
        StringBuilder text = new StringBuilder();
        List<int[]> paths = new ArrayList<>();
        List<int[]> towers = new ArrayList<>();
        int coin = 0;
        int worth = 100;
        int other = 0;
        Integer[] guards = new Integer[4];
        Integer[] carriers = new Integer[4];
        int[] row = new int[12];
        int[] tenths = new int[4];
        List<Object[]> kept = new ArrayList<>();
        List<List<Integer>> ways = new ArrayList<>();

        // read anew from the text each time
        List<int[]> readPaths;
        List<int[]> readTowers;
        int readCoin;
        int readWorth;
        int readOther;

        int write(int n, long v) {
            if (n < 1 || n > 8) {
                return -1;
            }
            if (text.length() + n > 400) {
                return -3;
            }
            for (int i = 1; i <= n; i++) {
                text.append((char) ((v >> (8 * (n - i))) & 0xff));
            }
            return text.length();
        }

        int wipe() {
            int was = text.length();
            text = new StringBuilder();
            return was;
        }

        int fault() {
            readPaths = new ArrayList<>();
            readTowers = new ArrayList<>();
            readCoin = 0;
            readWorth = 100;
            readOther = 0;
            Pattern item = Pattern.compile("([ptcvo])([0-9]{1,3}(?:,[0-9]{1,3})*);");
            int at = 0;
            while (at < text.length()) {
                Matcher matcher = item.matcher(text);
                matcher.region(at, text.length());
                if (!matcher.lookingAt() || !readItem(matcher.group(1), matcher.group(2).split(","))) {
                    return at;
                }
                at = matcher.end();
            }
            return -4;
        }

        boolean readItem(String letter, String[] words) {
            int[] n = Arrays.stream(words).mapToInt(Integer::parseInt).toArray();
            switch (letter) {
                case "p":
                    if (n.length != 7 || n[0] > 7 || n[1] > 7 || n[0] == n[1] || n[2] > 99 || n[3] > 99
                            || n[4] > 20 || n[5] > 100 || n[6] > 99 || readPaths.size() == 12) {
                        return false;
                    }
                    readPaths.add(n);
                    return true;
                case "t":
                    if (n.length != 3 || n[0] == n[1] || Math.max(n[0], n[1]) >= readPaths.size() || n[2] > 20
                            || readTowers.size() == 3) {
                        return false;
                    }
                    readTowers.add(n);
                    return true;
                default:
                    if (n.length != 1 || letter.equals("c") && n[0] > 300) {
                        return false;
                    }
                    readCoin = letter.equals("c") ? n[0] : readCoin;
                    readWorth = letter.equals("v") ? n[0] : readWorth;
                    readOther = letter.equals("o") ? n[0] : readOther;
                    return true;
            }
        }

        int lay() {
            if (fault() != -4) {
                return -2;
            }
            paths = readPaths;
            towers = readTowers;
            coin = readCoin;
            worth = readWorth;
            other = readOther;
            guards = new Integer[4];
            carriers = new Integer[4];
            row = new int[12];
            tenths = new int[4];
            findWays();
            return paths.size();
        }

        void findWays() {
            ways = new ArrayList<>();
            extend(new ArrayList<>(), new ArrayList<>(List.of(0)));
            ways.sort((a, b) -> {
                for (int i = 0; i < Math.min(a.size(), b.size()); i++) {
                    if (!a.get(i).equals(b.get(i))) {
                        return a.get(i) - b.get(i);
                    }
                }
                return a.size() - b.size();
            });
        }

        // From the last path on, so that the order has to be made by sorting.
        void extend(List<Integer> way, List<Integer> places) {
            int last = places.get(places.size() - 1);
            if (last == 7) {
                ways.add(new ArrayList<>(way));
                return;
            }
            for (int p = paths.size() - 1; p >= 0; p--) {
                int to = paths.get(p)[1];
                if (paths.get(p)[0] == last && !places.contains(to)) {
                    way.add(p);
                    places.add(to);
                    extend(way, places);
                    way.remove(way.size() - 1);
                    places.remove(places.size() - 1);
                }
            }
        }

        boolean bad(int posts) {
            for (int bit = 0; bit < 32; bit++) {
                boolean there = bit < paths.size() || bit >= 12 && bit < 12 + towers.size();
                if ((posts >>> bit & 1) == 1 && !there) {
                    return true;
                }
            }
            return false;
        }

        boolean badPath(int p) {
            return p < 0 || p >= paths.size();
        }

        boolean held(int posts, int p) {
            boolean is = (posts >> p & 1) == 1;
            for (int t = 0; t < towers.size(); t++) {
                is |= (posts >> (12 + t) & 1) == 1 && (towers.get(t)[0] == p || towers.get(t)[1] == p);
            }
            return is;
        }

        int cost(int posts) {
            int sum = 0;
            for (int p = 0; p < paths.size(); p++) {
                sum += (posts >> p & 1) == 1 ? paths.get(p)[4] : 0;
            }
            for (int t = 0; t < towers.size(); t++) {
                sum += (posts >> (12 + t) & 1) == 1 ? towers.get(t)[2] : 0;
            }
            return sum;
        }

        int waits(int posts) {
            int sum = 0;
            for (int p = 0; p < paths.size(); p++) {
                sum += held(posts, p) ? paths.get(p)[6] : 0;
            }
            return sum;
        }

        int bearing(int posts, int p, int extra) {
            int c = paths.get(p)[2] + extra;
            return held(posts, p) ? (int) Math.floor(c * (100 - paths.get(p)[5]) / 100.0 + 1e-9) : c;
        }

        int[] flow(int posts, int extraPath) {
            int n = paths.size();
            int[] left = new int[n];
            int[] sent = new int[n];
            for (int p = 0; p < n; p++) {
                left[p] = bearing(posts, p, p == extraPath ? 1 : 0);
            }
            int total = 0;
            while (true) {
                int[] by = new int[8];
                Arrays.fill(by, -1);
                boolean[] seen = new boolean[8];
                seen[0] = true;
                List<Integer> queue = new ArrayList<>(List.of(0));
                for (int i = 0; i < queue.size(); i++) {
                    int at = queue.get(i);
                    for (int p = 0; p < n; p++) {
                        int[] path = paths.get(p);
                        if (path[0] == at && left[p] > 0 && !seen[path[1]]) {
                            seen[path[1]] = true;
                            by[path[1]] = p;
                            queue.add(path[1]);
                        }
                        if (path[1] == at && sent[p] > 0 && !seen[path[0]]) {
                            seen[path[0]] = true;
                            by[path[0]] = p + 100;
                            queue.add(path[0]);
                        }
                    }
                }
                if (!seen[7]) {
                    int shore = 0;
                    int holds = 0;
                    for (int v = 0; v < 8; v++) {
                        shore |= seen[v] ? 1 << v : 0;
                    }
                    for (int p = 0; p < n; p++) {
                        holds |= seen[paths.get(p)[0]] && !seen[paths.get(p)[1]] ? 1 << p : 0;
                    }
                    return new int[] {total, shore, holds};
                }
                int amount = Integer.MAX_VALUE;
                for (int v = 7; v != 0; ) {
                    int p = by[v] % 100;
                    amount = Math.min(amount, by[v] < 100 ? left[p] : sent[p]);
                    v = by[v] < 100 ? paths.get(p)[0] : paths.get(p)[1];
                }
                for (int v = 7; v != 0; ) {
                    int p = by[v] % 100;
                    int signed = by[v] < 100 ? amount : -amount;
                    left[p] -= signed;
                    sent[p] += signed;
                    v = by[v] < 100 ? paths.get(p)[0] : paths.get(p)[1];
                }
                total += amount;
            }
        }

        int judge(int posts) {
            if (bad(posts)) {
                return -1;
            }
            for (int p = 0; p < 12; p++) {
                if (row[p] > (p < paths.size() ? bearing(posts, p, 0) : 0)) {
                    return p;
                }
            }
            int[] in = new int[8];
            int[] out = new int[8];
            for (int p = 0; p < paths.size(); p++) {
                out[paths.get(p)[0]] += row[p];
                in[paths.get(p)[1]] += row[p];
            }
            for (int v = 1; v < 7; v++) {
                if (in[v] != out[v]) {
                    return 100 + v;
                }
            }
            return in[7] >= out[7] ? 200 + in[7] - out[7] : 199;
        }

        // MOST by each set of posts, made when it is first needed.
        int[] mostOf = null;

        int cachedMost(int posts) {
            if (mostOf == null) {
                mostOf = new int[1 << 15];
                Arrays.fill(mostOf, -1);
            }
            if (mostOf[posts] < 0) {
                mostOf[posts] = flow(posts, -1)[0];
            }
            return mostOf[posts];
        }

        int bestPosts(int n) {
            int found = -1;
            for (int posts = 0; posts < 1 << 15; posts++) {
                if (!bad(posts) && cost(posts) <= n && (found < 0 || cachedMost(posts) < cachedMost(found))) {
                    found = posts;
                }
            }
            return found;
        }

        int best(int n, int what) {
            if (n < 0 || n > 300 || what < 0 || what > 2) {
                return -1;
            }
            int found = bestPosts(n);
            return what == 0 ? found : what == 1 ? cachedMost(found) : cost(found);
        }

        int fewest(int l) {
            if (l < 0 || l > 9999) {
                return -1;
            }
            int least = -4;
            for (int posts = 0; posts < 1 << 15; posts++) {
                if (!bad(posts) && cachedMost(posts) <= l && (least < 0 || cost(posts) < least)) {
                    least = cost(posts);
                }
            }
            return least;
        }

        int weighed(int a, int b, int what) {
            if (a < 0 || a > 99 || b < 0 || b > 99 || what < 0 || what > 1) {
                return -1;
            }
            int found = -1;
            int sum = 0;
            for (int posts = 0; posts < 1 << 15; posts++) {
                if (!bad(posts) && cost(posts) <= coin) {
                    int now = a * cachedMost(posts) + b * waits(posts);
                    if (found < 0 || now < sum) {
                        found = posts;
                        sum = now;
                    }
                }
            }
            return what == 0 ? found : sum;
        }

        int way(int w, int i) {
            if (w < -1 || i < -1) {
                return -1;
            }
            if (w == -1) {
                return ways.size();
            }
            if (w >= ways.size()) {
                return -4;
            }
            return i == -1 ? ways.get(w).size() : i < ways.get(w).size() ? ways.get(w).get(i) : -4;
        }

        int throughWay(int posts, int w) {
            return ways.get(w).stream().mapToInt(p -> bearing(posts, p, 0)).min().getAsInt();
        }

        long gainWay(int posts, int w) {
            BigInteger above = BigInteger.valueOf(worth).multiply(BigInteger.TEN.pow(14));
            BigInteger below = BigInteger.ONE;
            BigInteger costs = BigInteger.ZERO;
            for (int p : ways.get(w)) {
                if (held(posts, p)) {
                    above = above.multiply(BigInteger.valueOf(100 - paths.get(p)[5]));
                    below = below.multiply(BigInteger.valueOf(100));
                }
                costs = costs.add(BigInteger.valueOf(paths.get(p)[3]));
            }
            BigInteger[] parts = above.divideAndRemainder(below);
            if (parts[1].signum() != 0) {
                throw new IllegalStateException("a gain is not whole");
            }
            return parts[0].subtract(costs.multiply(BigInteger.TEN.pow(14))).longValueExact();
        }

        int bestWay(int posts, int what) {
            if (bad(posts) || what < 0 || what > 1) {
                return -1;
            }
            if (ways.isEmpty()) {
                return -4;
            }
            int found = 0;
            for (int w = 1; w < ways.size(); w++) {
                if (gainWay(posts, w) > gainWay(posts, found)) {
                    found = w;
                }
            }
            return what == 0 ? found : gainWay(posts, found) > other * 100000000000000L ? 1 : 0;
        }

        int leastPay() {
            int found = -1;
            long least = 0;
            for (int posts = 0; posts < 1 << 15; posts++) {
                if (!bad(posts) && cost(posts) <= coin) {
                    long now = ways.isEmpty() ? other * 100000000000000L : gainWay(posts, bestWay(posts, 0));
                    if (found < 0 || now < least) {
                        found = posts;
                        least = now;
                    }
                }
            }
            return found;
        }

        // The support's answer: above and below of the value, of each guard's and each carrier's chance.
        Fraction[] game() {
            int[] sets = new int[15];
            int filled = 0;
            for (int size = 1; size <= 4; size++) {
                for (int set = 1; set < 16; set++) {
                    if (Integer.bitCount(set) == size) {
                        sets[filled++] = set;
                    }
                }
            }
            for (int g : sets) {
                for (int c : sets) {
                    if (Integer.bitCount(g) == Integer.bitCount(c)) {
                        Fraction[] found = support(g, c);
                        if (found != null) {
                            return found;
                        }
                    }
                }
            }
            return null;
        }

        Fraction[] support(int gs, int cs) {
            List<Integer> guardList = new ArrayList<>();
            List<Integer> carrierList = new ArrayList<>();
            for (int k = 0; k < 4; k++) {
                if ((gs >> k & 1) == 1) {
                    guardList.add(k);
                }
                if ((cs >> k & 1) == 1) {
                    carrierList.add(k);
                }
            }
            for (int k : guardList) {
                if (guards[k] == null) {
                    return null;
                }
            }
            for (int k : carrierList) {
                if (carriers[k] == null) {
                    return null;
                }
            }
            int n = guardList.size();
            int[][] square = new int[n][n];
            int[][] turned = new int[n][n];
            for (int i = 0; i < n; i++) {
                for (int j = 0; j < n; j++) {
                    square[i][j] = throughWay(guards[guardList.get(i)], carriers[carrierList.get(j)]);
                    turned[j][i] = square[i][j];
                }
            }
            Fraction[] y = solve(square);
            Fraction[] x = solve(turned);
            if (x == null || y == null) {
                return null;
            }
            Fraction[] found = new Fraction[9];
            Arrays.fill(found, Fraction.of(0));
            for (int i = 0; i < n; i++) {
                if (x[i].signum() <= 0 || y[i].signum() <= 0) {
                    return null;
                }
                found[1 + guardList.get(i)] = x[i];
                found[5 + carrierList.get(i)] = y[i];
            }
            found[0] = x[n];
            for (int k = 0; k < 4; k++) {
                Fraction byGuard = Fraction.of(0);
                Fraction ofCarrier = Fraction.of(0);
                for (int j = 0; j < 4; j++) {
                    if (guards[k] != null && carriers[j] != null) {
                        byGuard = byGuard.plus(found[5 + j].times(Fraction.of(throughWay(guards[k], carriers[j]))));
                    }
                    if (guards[j] != null && carriers[k] != null) {
                        ofCarrier = ofCarrier.plus(found[1 + j].times(Fraction.of(throughWay(guards[j], carriers[k]))));
                    }
                }
                if (guards[k] != null && byGuard.minus(found[0]).signum() < 0
                        || carriers[k] != null && ofCarrier.minus(found[0]).signum() > 0) {
                    return null;
                }
            }
            return found;
        }

        /** Chances by which every line of the square has the same mean, and that mean; null if not just one. */
        Fraction[] solve(int[][] square) {
            int n = square.length;
            Fraction[][] m = new Fraction[n + 1][n + 2];
            for (int i = 0; i < n; i++) {
                for (int j = 0; j < n; j++) {
                    m[i][j] = Fraction.of(square[i][j]);
                }
                m[i][n] = Fraction.of(-1);
                m[i][n + 1] = Fraction.of(0);
                m[n][i] = Fraction.of(1);
            }
            m[n][n] = Fraction.of(0);
            m[n][n + 1] = Fraction.of(1);
            for (int k = 0; k <= n; k++) {
                int pivot = k;
                while (pivot <= n && m[pivot][k].signum() == 0) {
                    pivot++;
                }
                if (pivot > n) {
                    return null;
                }
                Fraction[] line = m[pivot];
                m[pivot] = m[k];
                m[k] = line;
                for (int i = 0; i <= n; i++) {
                    if (i != k) {
                        Fraction factor = m[i][k].by(m[k][k]);
                        for (int j = 0; j < n + 2; j++) {
                            m[i][j] = m[i][j].minus(factor.times(m[k][j]));
                        }
                    }
                }
            }
            Fraction[] found = new Fraction[n + 1];
            for (int k = 0; k <= n; k++) {
                found[k] = m[k][n + 1].by(m[k][k]);
            }
            return found;
        }

        long value(int part) {
            if (part < 0 || part > 1) {
                return -1;
            }
            Fraction[] found = game();
            return found == null ? -2 : found[0].part(part);
        }

        long chance(int side, int k, int part) {
            if (side < 0 || side > 1 || k < 0 || k > 3 || part < 0 || part > 1
                    || (side == 0 ? guards : carriers)[k] == null) {
                return -1;
            }
            Fraction[] found = game();
            return found == null ? -2 : found[1 + 4 * side + k].part(part);
        }

        int told() {
            int informed = 0;
            int together = 0;
            int[] means = new int[4];
            boolean anyCarrier = false;
            for (int g = 0; g < 4; g++) {
                together += tenths[g];
                anyCarrier |= carriers[g] != null;
                if (tenths[g] > 0) {
                    if (guards[g] == null) {
                        return -2;
                    }
                    int greatest = 0;
                    for (int c = 0; c < 4; c++) {
                        if (carriers[c] != null) {
                            greatest = Math.max(greatest, throughWay(guards[g], carriers[c]));
                            means[c] += tenths[g] * throughWay(guards[g], carriers[c]);
                        }
                    }
                    informed += tenths[g] * greatest;
                }
            }
            return together != 10 || !anyCarrier ? -2 : informed - Arrays.stream(means).max().getAsInt();
        }

        int nights(int n, int d) {
            if (n < 1 || n > 8 || d < 0 || d > 15) {
                return -1;
            }
            long count = Arrays.stream(guards).filter(g -> g != null).count();
            if (count == 0) {
                return -2;
            }
            int[] costs = new int[4];
            for (int g = 0; g < 4; g++) {
                costs[g] = guards[g] == null ? 0 : flow(guards[g], -1)[0];
            }
            int least = leastNights(n, d, -1, count, costs);
            return least == Integer.MAX_VALUE ? -4 : least;
        }

        int leastNights(int n, int d, int last, long count, int[] costs) {
            if (n == 0) {
                return 0;
            }
            int least = Integer.MAX_VALUE;
            for (int g = 0; g < 4; g++) {
                boolean may = guards[g] != null && (last < 0
                        || (count == 1 || g != last) && Integer.bitCount(guards[g] ^ guards[last]) <= d);
                if (may) {
                    int rest = leastNights(n - 1, d, g, count, costs);
                    least = rest == Integer.MAX_VALUE ? least : Math.min(least, rest + costs[g]);
                }
            }
            return least;
        }

        int keep() {
            if (kept.size() == 2) {
                return -3;
            }
            kept.add(new Object[] {paths, towers, new int[] {coin, worth, other}, guards.clone(), carriers.clone()});
            return kept.size();
        }

        @SuppressWarnings("unchecked")
        int back() {
            if (kept.isEmpty()) {
                return -2;
            }
            Object[] last = kept.remove(kept.size() - 1);
            paths = (List<int[]>) last[0];
            towers = (List<int[]>) last[1];
            coin = ((int[]) last[2])[0];
            worth = ((int[]) last[2])[1];
            other = ((int[]) last[2])[2];
            guards = (Integer[]) last[3];
            carriers = (Integer[]) last[4];
            findWays();
            return kept.size();
        }

        int count(int what) {
            int[] all = {paths.size(), towers.size(), coin, worth, other, text.length(), kept.size()};
            return what < 0 || what > 6 ? -1 : all[what];
        }
    }

    private static final class Fraction {
        final BigInteger above;
        final BigInteger below;

        Fraction(BigInteger a, BigInteger b) {
            BigInteger gcd = a.gcd(b);
            BigInteger sign = b.signum() < 0 ? BigInteger.ONE.negate() : BigInteger.ONE;
            above = a.divide(gcd).multiply(sign);
            below = b.divide(gcd).multiply(sign);
        }

        static Fraction of(long n) {
            return new Fraction(BigInteger.valueOf(n), BigInteger.ONE);
        }

        Fraction plus(Fraction f) {
            return new Fraction(above.multiply(f.below).add(f.above.multiply(below)), below.multiply(f.below));
        }

        Fraction minus(Fraction f) {
            return plus(new Fraction(f.above.negate(), f.below));
        }

        Fraction times(Fraction f) {
            return new Fraction(above.multiply(f.above), below.multiply(f.below));
        }

        Fraction by(Fraction f) {
            return new Fraction(above.multiply(f.below), below.multiply(f.above));
        }

        int signum() {
            return above.signum();
        }

        long part(int part) {
            return (part == 0 ? above : below).longValueExact();
        }
    }

    // ---------------------------------------------------------------- random lands and calls

    private static String randomPath(boolean forward) {
        int from = random(8);
        int to = random(8);
        if (forward) {
            from = random(4) == 0 ? 0 : random(7);
            to = random(3) == 0 ? 7 : from + 1 + random(7 - from);
        }
        int loads = random(5) == 0 ? random(100) : random(20);
        int stops = random(4) == 0 ? new int[] {0, 100, 99, 1}[random(4)] : random(101);
        return "p" + from + "," + to + "," + loads + "," + random(random(2) == 0 ? 10 : 100) + ","
                + random(random(3) == 0 ? 3 : 21) + "," + stops + "," + random(random(2) == 0 ? 4 : 100) + ";";
    }

    private static String randomText(int maxPaths) {
        StringBuilder text = new StringBuilder();
        boolean forward = random(3) != 0;
        int paths = random(maxPaths + 1);
        for (int p = 0; p < paths; p++) {
            text.append(randomPath(forward));
            if (random(4) == 0 && p > 0) {
                text.append("t").append(random(p + 1)).append(",").append(random(p + 1)).append(",")
                        .append(random(21)).append(";");
            }
        }
        if (random(4) != 0) {
            text.append("c").append(random(random(2) == 0 ? 15 : 301)).append(";");
        }
        if (random(2) != 0) {
            text.append("v").append(random(1000)).append(";");
        }
        if (random(2) != 0) {
            text.append("o").append(random(random(2) == 0 ? 100 : 1000)).append(";");
        }
        if (random(12) == 0 && text.length() > 0) {
            text.setCharAt(random(text.length()), "ptcvo0123456789,; \u0000\u00ff".charAt(random(20)));
        }
        return text.toString();
    }

    private static void due(int round, String call, long got, long want) {
        if (got != want) {
            wrong++;
            if (wrong < 50) {
                System.out.println("round " + round + ": " + call + " answered " + got + ", the twin " + want);
            }
        }
    }

    private static void writeText(int round, BorderGuards x, Twin twin, String text) {
        byte[] bytes = text.getBytes(StandardCharsets.ISO_8859_1);
        for (int at = 0; at < bytes.length; ) {
            int n = Math.min(1 + random(8), bytes.length - at);
            long v = random(2) == 0 ? -1L : 0L;
            for (int i = 0; i < n; i++) {
                v = v << 8 | bytes[at + i] & 0xff;
            }
            due(round, "write(" + n + ", " + v + ")", x.write(n, v), twin.write(n, v));
            at += n;
        }
    }

    private static int aboutPosts(Twin twin) {
        int posts = random(1 << 15) & random(1 << 15);
        int there = (1 << twin.paths.size()) - 1 | (1 << twin.towers.size()) - 1 << 12;
        return random(20) == 0 ? about(0, 32767) : posts & there;
    }

    private static void landCalls(int round, BorderGuards x, Twin t) {
        int posts = aboutPosts(t);
        int p = about(0, 11);
        int what = about(0, 2);
        due(round, "path", x.path(p, what), t.badPath(p) || what < 0 || what > 6 ? -1 : t.paths.get(p)[what]);
        int heldBits = 0;
        for (int i = 0; i < t.paths.size(); i++) {
            heldBits |= t.held(posts, i) ? 1 << i : 0;
        }
        int[] numbers = {t.cost(posts), heldBits, t.waits(posts)};
        due(round, "posts " + posts, x.posts(posts, what), t.bad(posts) || what < 0 || what > 2 ? -1 : numbers[what]);
        due(round, "bears " + posts, x.bears(posts, p), t.bad(posts) || t.badPath(p) ? -1 : t.bearing(posts, p, 0));
        due(round, "most " + posts, x.most(posts, what),
                t.bad(posts) || what < 0 || what > 2 ? -1 : t.flow(posts, -1)[what]);
        due(round, "oneMore " + posts + " " + p, x.oneMore(posts, p),
                t.bad(posts) || t.badPath(p) ? -1 : t.flow(posts, p)[0] - t.flow(posts, -1)[0]);
        int kind = about(0, 6);
        due(round, "count " + kind, x.count(kind), t.count(kind));
    }

    private static void rowCalls(int round, BorderGuards x, Twin t) {
        // Sends loads along ways, so that rows that stand are looked at too.
        if (!t.ways.isEmpty() && random(3) != 0) {
            int amount = random(4);
            for (int p : t.ways.get(random(t.ways.size()))) {
                int loads = Math.min(99, t.row[p] + amount);
                due(round, "row", x.row(p, loads), t.row[p]);
                t.row[p] = loads;
            }
        }
        if (random(4) == 0) {
            int p = about(0, 11);
            int loads = about(0, random(2) == 0 ? 3 : 99);
            boolean bad = p < 0 || p > 11 || loads < 0 || loads > 99;
            due(round, "row", x.row(p, loads), bad ? -1 : t.row[p]);
            if (!bad) {
                t.row[p] = loads;
            }
        }
        if (random(6) == 0) {
            for (int p = 0; p < 12; p++) {
                due(round, "row", x.row(p, 0), t.row[p]);
                t.row[p] = 0;
            }
        }
        int posts = random(2) == 0 ? 0 : aboutPosts(t);
        due(round, "judge " + posts, x.judge(posts), t.judge(posts));
    }

    private static void planCalls(int round, BorderGuards x, Twin t) {
        int coin = about(0, random(2) == 0 ? 20 : 300);
        int what = about(0, 2);
        due(round, "best " + coin + " " + what, x.best(coin, what), t.best(coin, what));
        int l = about(0, random(2) == 0 ? 30 : 9999);
        due(round, "fewest " + l, x.fewest(l), t.fewest(l));
        int first = t.cachedMost(t.bestPosts(t.coin));
        due(round, "more", x.more(), first - t.cachedMost(t.bestPosts(t.coin + 1)));
        int a = about(0, random(2) == 0 ? 3 : 99);
        int b = about(0, random(2) == 0 ? 3 : 99);
        int kind = about(0, 1);
        due(round, "weighed " + a + " " + b, x.weighed(a, b, kind), t.weighed(a, b, kind));
    }

    private static void wayCalls(int round, BorderGuards x, Twin t) {
        int posts = aboutPosts(t);
        int w = about(-1, t.ways.size());
        int i = about(-1, 7);
        due(round, "way " + w + " " + i, x.way(w, i), t.way(w, i));
        boolean bad = t.bad(posts) || w < 0;
        boolean none = w >= t.ways.size();
        due(round, "through", x.through(posts, w), bad ? -1 : none ? -4 : t.throughWay(posts, w));
        due(round, "gain", x.gain(posts, w),
                bad ? Long.MIN_VALUE + 1 : none ? Long.MIN_VALUE : t.gainWay(posts, w));
        int what = about(0, 1);
        due(round, "bestWay", x.bestWay(posts, what), t.bestWay(posts, what));
    }

    private static int orNone(Integer number) {
        return number == null ? -1 : number;
    }

    private static void tellLots(int round, BorderGuards x, Twin t) {
        int g = about(0, 3);
        int posts = random(6) == 0 ? -1 : aboutPosts(t);
        boolean badGuard = g < 0 || g > 3 || posts != -1 && t.bad(posts);
        due(round, "guard", x.guard(g, posts), badGuard ? -100 : orNone(t.guards[g]));
        if (!badGuard) {
            t.guards[g] = posts == -1 ? null : posts;
        }
        int c = about(0, 3);
        int w = t.ways.isEmpty() || random(6) == 0 ? about(-1, t.ways.size()) : random(t.ways.size());
        boolean badCarrier = c < 0 || c > 3 || w < -1 || w >= t.ways.size();
        due(round, "carrier", x.carrier(c, w), badCarrier ? -100 : orNone(t.carriers[c]));
        if (!badCarrier) {
            t.carriers[c] = w == -1 ? null : w;
        }
    }

    private static void tellTenths(int round, BorderGuards x, Twin t) {
        int left = 10;
        for (int g = 0; g < 4; g++) {
            int p = g == 3 ? left : t.guards[g] == null && random(10) != 0 ? 0 : random(left + 1);
            due(round, "tenths", x.tenths(g, p), t.tenths[g]);
            t.tenths[g] = p;
            left -= p;
        }
        int g = about(0, 3);
        int p = about(0, 10);
        if (random(4) == 0) {
            boolean bad = g < 0 || g > 3 || p < 0 || p > 10;
            due(round, "tenths", x.tenths(g, p), bad ? -1 : t.tenths[g]);
            if (!bad) {
                t.tenths[g] = p;
            }
        }
    }

    private static void lotCalls(int round, BorderGuards x, Twin t) {
        for (int i = random(8); i > 0; i--) {
            tellLots(round, x, t);
        }
        int part = about(0, 1);
        due(round, "value " + part, x.value(part), t.value(part));
        int side = about(0, 1);
        int k = about(0, 3);
        due(round, "chance " + side + " " + k + " " + part, x.chance(side, k, part), t.chance(side, k, part));
        tellTenths(round, x, t);
        due(round, "told", x.told(), t.told());
        int n = about(1, 8);
        int d = about(0, 15);
        due(round, "nights " + n + " " + d, x.nights(n, d), t.nights(n, d));
    }

    private static void keepCalls(int round, BorderGuards x, Twin t) {
        if (random(3) == 0) {
            due(round, "keep", x.keep(), t.keep());
        }
        if (random(4) == 0) {
            due(round, "back", x.back(), t.back());
            t.mostOf = null;
        }
    }

    private static void oneRound(int round, int maxPaths, int lands, boolean plans) {
        BorderGuards x = new BorderGuards();
        Twin t = new Twin();
        for (int land = 0; land < lands; land++) {
            due(round, "wipe", x.wipe(), t.wipe());
            writeText(round, x, t, randomText(maxPaths));
            due(round, "fault", x.fault(), t.fault());
            due(round, "lay", x.lay(), t.lay());
            t.mostOf = null;
            for (int i = 0; i < 4; i++) {
                landCalls(round, x, t);
                rowCalls(round, x, t);
                wayCalls(round, x, t);
                lotCalls(round, x, t);
                if (plans) {
                    planCalls(round, x, t);
                    due(round, "leastPay", x.leastPay(), t.leastPay());
                }
                keepCalls(round, x, t);
            }
        }
    }

    // How many games were played by the size of their support; 0 for those that have none.
    private static final int[] sizes = new int[5];

    /**
     * Three layers of four paths that lie side by side: the carriers' ways share no path, so the
     * game's numbers are nearly free, small ones with many that are alike too.
     */
    private static void gameRound(int round, int loads) {
        BorderGuards x = new BorderGuards();
        Twin t = new Twin();
        StringBuilder text = new StringBuilder();
        for (int p = 0; p < 12; p++) {
            int layer = p / 4;
            text.append("p").append(layer).append(",").append(layer == 2 ? 7 : layer + 1).append(",")
                    .append(loads - random(2)).append(",0,0,").append(random(101)).append(",0;");
        }
        writeText(round, x, t, text.toString());
        due(round, "lay", x.lay(), t.lay());
        for (int game = 0; game < 10; game++) {
            for (int k = 0; k < 4; k++) {
                int posts = random(10) == 0 ? -1 : random(1 << 12) & (random(2) == 0 ? random(1 << 12) : -1);
                due(round, "guard", x.guard(k, posts), orNone(t.guards[k]));
                t.guards[k] = posts == -1 ? null : posts;
                int way = random(10) == 0 ? -1 : (k * 16 + k * 4 + k);
                due(round, "carrier", x.carrier(k, way), orNone(t.carriers[k]));
                t.carriers[k] = way == -1 ? null : way;
            }
            Fraction[] found = t.game();
            int size = 0;
            for (int part = 0; part < 2; part++) {
                due(round, "value", x.value(part), found == null ? -2 : found[0].part(part));
                for (int k = 0; k < 4; k++) {
                    size += found != null && part == 0 && found[1 + k].signum() > 0 ? 1 : 0;
                    due(round, "chance 0 " + k, x.chance(0, k, part), t.chance(0, k, part));
                    due(round, "chance 1 " + k, x.chance(1, k, part), t.chance(1, k, part));
                }
            }
            boolean bothTold = x.value(0) != -2 || Arrays.stream(t.guards).anyMatch(g -> g != null)
                    && Arrays.stream(t.carriers).anyMatch(c -> c != null);
            sizes[size] += bothTold ? 1 : 0;
        }
    }

    public static void main(String[] args) {
        int scale = args.length > 0 ? Integer.parseInt(args[0]) : 1;
        for (int round = 0; round < 3000 * scale; round++) {
            oneRound(round, 12, 3, false);
        }
        for (int round = 0; round < 60 * scale; round++) {
            oneRound(100000 + round, 6, 3, true);
        }
        for (int round = 0; round < 2 * scale; round++) {
            oneRound(200000 + round, 12, 1, true);
        }
        for (int round = 0; round < 300 * scale; round++) {
            gameRound(300000 + round, round % 2 == 0 ? 3 : 99);
        }
        for (int size = 0; size <= 4; size++) {
            due(400000, "games with a support of " + size, sizes[size] > 0 ? 1 : 0, 1);
        }
        System.out.println("supports of 0 (none) to 4: " + Arrays.toString(sizes));
        System.out.println(wrong == 0 ? "the twins agree" : "the twins differ in " + wrong + " answers");
        if (wrong != 0) {
            System.exit(1);
        }
    }
}
