/** The edges of promises 22 to 30: guards and carriers by lot, their game, being told, nights, lands kept. */
public final class LotEdgesTest {
    private static final int BAD = Due.BAD, NO = Due.NO, FULL = Due.FULL, NONE = Due.NONE, BAD_LOT = Due.BAD_LOT;
    private static final int[] NO_LOTS = {Due.LEAST, -2, -1, 4, 5, 256, Due.GREATEST};
    private static final String TWO = "p0,7,9,0,1,100,0;p0,7,4,0,1,50,0;";

    // ---- promise 22

    private static void guardsAreTold() {
        Due.sentence(22, "GUARD g is POSTS (-1: is not told): what it was (-1: none)");
        BorderGuards x = Due.land(Due.times(12, "p0,7,9,0,1,100,0;") + "t0,1,1;t2,3,1;t4,5,1;");
        int[] posts = {0, 1, 4095, 32767};
        for (int g = 0; g < 4; g++) {
            Due.is("guard(" + g + ", " + posts[g] + ") at first", x.guard(g, posts[g]), -1);
        }
        for (int g = 0; g < 4; g++) {
            Due.is("guard(" + g + ", -1): each its own", x.guard(g, -1), posts[g]);
            Due.is("guard(" + g + ", -1) again", x.guard(g, -1), -1);
            Due.is("guard(" + g + ", 0)", x.guard(g, 0), -1);
            Due.is("guard(" + g + ", 0): no posts are posts", x.guard(g, 0), 0);
        }
        Due.sentence(22, "GUARDS 0 to 3; BAD answers -100");
        for (int g : NO_LOTS) {
            for (int p : new int[] {-1, 0, 1, 32768}) {
                Due.is("guard(" + g + ", " + p + ")", x.guard(g, p), BAD_LOT);
            }
        }
        for (int p : new int[] {-2, -100, 32768, 65536, Due.LEAST, Due.LEAST + 1, Due.GREATEST}) {
            Due.is("guard(0, " + p + ")", x.guard(0, p), BAD_LOT);
        }
        Due.is("guard(0, -1): as it was", x.guard(0, -1), 0);
        BorderGuards none = new BorderGuards();
        Due.is("guard(3, 0) of no land", none.guard(3, 0), -1);
        Due.is("guard(3, 1) of no land", none.guard(3, 1), BAD_LOT);
        Due.is("guard(3, -1) of no land", none.guard(3, -1), 0);
    }

    // ---- promise 23

    private static void carriersAreTold() {
        Due.sentence(23, "CARRIER c is a WAY (-1: is not told): what it was. BAD answers -100 (no such WAY, too)");
        BorderGuards x = Due.land(Due.times(12, "p0,7,9,0,1,100,0;"));
        int[] ways = {11, 0, 5, 11};
        for (int c = 0; c < 4; c++) {
            Due.is("carrier(" + c + ", " + ways[c] + ") at first", x.carrier(c, ways[c]), -1);
        }
        for (int c = 0; c < 4; c++) {
            Due.is("carrier(" + c + ", -1): each its own", x.carrier(c, -1), ways[c]);
            Due.is("carrier(" + c + ", -1) again", x.carrier(c, -1), -1);
            Due.is("carrier(" + c + ", 0)", x.carrier(c, 0), -1);
        }
        for (int c : NO_LOTS) {
            for (int w : new int[] {-1, 0, 11, 12}) {
                Due.is("carrier(" + c + ", " + w + ")", x.carrier(c, w), BAD_LOT);
            }
        }
        for (int w : new int[] {Due.LEAST, -100, -2, 12, 13, 399, 400, Due.GREATEST}) {
            Due.is("carrier(0, " + w + ")", x.carrier(0, w), BAD_LOT);
        }
        Due.is("carrier(0, -1): as it was", x.carrier(0, -1), 0);
        BorderGuards none = Due.land("p0,1,9,0,0,0,0;");
        Due.is("carrier(0, 0) without a way", none.carrier(0, 0), BAD_LOT);
        Due.is("carrier(0, -1) without a way", none.carrier(0, -1), -1);
    }

    // ---- promises 24 and 25

    /**
     * A land in which carrier c brings m[g][c] by guard g: three layers of paths, and carrier c goes by
     * the c-th of each; each number but the greatest of a column is what one of its paths bears when held.
     */
    private static BorderGuards game(int[][] m) {
        int n = m[0].length;
        int[] guards = new int[m.length];
        int[][] stops = new int[3][n];
        int[] loads = new int[n];
        for (int c = 0; c < n; c++) {
            for (int[] line : m) {
                loads[c] = Math.max(loads[c], line[c]);
            }
            int used = 0;
            for (int g = 0; g < m.length; g++) {
                int layer = 0;
                while (m[g][c] < loads[c] && layer < used && loads[c] * (100 - stops[layer][c]) / 100 != m[g][c]) {
                    layer++;
                }
                if (m[g][c] < loads[c]) {
                    while (loads[c] * (100 - stops[layer][c]) / 100 > m[g][c]) {
                        stops[layer][c]++;
                    }
                    used = Math.max(used, layer + 1);
                    guards[g] |= 1 << layer * n + c;
                }
            }
        }
        StringBuilder text = new StringBuilder();
        for (int layer = 0; layer < 3; layer++) {
            for (int c = 0; c < n; c++) {
                text.append("p").append(layer).append(",").append(layer == 2 ? 7 : layer + 1).append(",").append(loads[c])
                        .append(",0,0,").append(stops[layer][c]).append(",0;");
            }
        }
        BorderGuards x = Due.land(text.toString());
        for (int g = 0; g < m.length; g++) {
            x.guard(g, guards[g]);
        }
        for (int c = 0; c < n; c++) {
            x.carrier(c, c * n * n + c * n + c);
            for (int g = 0; g < m.length; g++) {
                Due.is("what carrier " + c + " brings by guard " + g, x.through(guards[g], c * n * n + c * n + c), m[g][c]);
            }
        }
        return x;
    }

    /** Fractions as texts: the value, then the guards' and the carriers' chances. */
    private static void dueGame(int[][] m, String value, String guards, String carriers) {
        dueChances(game(m), value, guards, carriers);
    }

    private static void dueChances(BorderGuards x, String value, String guards, String carriers) {
        Due.same("the value", x.value(0) + "/" + x.value(1), value);
        Due.same("the guards' chances", chances(x, 0, guards.split(" ").length), guards);
        Due.same("the carriers' chances", chances(x, 1, carriers.split(" ").length), carriers);
    }

    private static String chances(BorderGuards x, int side, int n) {
        StringBuilder text = new StringBuilder();
        for (int k = 0; k < n; k++) {
            text.append(k == 0 ? "" : " ").append(x.chance(side, k, 0)).append("/").append(x.chance(side, k, 1));
        }
        return text.toString();
    }

    private static void dueNoSupport(int[][] m) {
        BorderGuards x = game(m);
        for (int part = 0; part < 2; part++) {
            Due.is("value(" + part + ")", x.value(part), NO);
            Due.is("chance(0, 0, " + part + ")", x.chance(0, 0, part), NO);
            Due.is("chance(1, 0, " + part + ")", x.chance(1, 0, part), NO);
        }
    }

    private static void supportsOfOne() {
        Due.sentence(25, "SUPPORTS: one first; no other CARRIER better, no other GUARD less");
        dueGame(new int[][] {{5}}, "5/1", "1/1", "1/1");
        dueGame(new int[][] {{0}}, "0/1", "1/1", "1/1");
        dueGame(new int[][] {{99}}, "99/1", "1/1", "1/1");
        dueGame(new int[][] {{3, 5}, {2, 4}}, "4/1", "0/1 1/1", "0/1 1/1");
        dueGame(new int[][] {{3, 2}, {5, 4}}, "3/1", "1/1 0/1", "1/1 0/1");
        dueGame(new int[][] {{3, 4, 5, 4}}, "5/1", "1/1", "0/1 0/1 1/1 0/1");
        dueGame(new int[][] {{4}, {3}, {2}, {3}}, "2/1", "0/1 0/1 1/1 0/1", "1/1");
        Due.sentence(25, "sets of GUARDS rising by bits, for each sets of CARRIERS rising: the first");
        dueGame(new int[][] {{3, 3}, {3, 3}}, "3/1", "1/1 0/1", "1/1 0/1");
        dueGame(new int[][] {{5, 5, 5}, {3, 3, 3}, {3, 3, 3}}, "3/1", "0/1 1/1 0/1", "1/1 0/1 0/1");
        // By guard 0 carriers 0 and 1 do less well than carrier 2, though all that guard 1 lets through is as much.
        dueGame(new int[][] {{3, 1, 4}, {4, 4, 4}}, "4/1", "1/1 0/1", "0/1 0/1 1/1");
        dueGame(new int[][] {{4, 3, 4}, {3, 4, 4}}, "4/1", "1/1 0/1", "0/1 0/1 1/1");
    }

    private static void supportsOfTwo() {
        Due.sentence(25, "then two; a fraction in lowest terms");
        dueGame(new int[][] {{0, 8}, {6, 0}}, "24/7", "3/7 4/7", "4/7 3/7");
        dueGame(new int[][] {{0, 6}, {6, 0}}, "3/1", "1/2 1/2", "1/2 1/2");
        dueGame(new int[][] {{0, 1}, {99, 0}}, "99/100", "99/100 1/100", "1/100 99/100");
        dueGame(new int[][] {{98, 99}, {99, 97}}, "295/3", "2/3 1/3", "2/3 1/3");
        Due.sentence(25, "sets of GUARDS rising by bits, for each sets of CARRIERS rising: the first");
        dueGame(new int[][] {{0, 0, 8}, {0, 0, 8}, {6, 6, 0}}, "24/7", "3/7 0/1 4/7", "4/7 0/1 3/7");
        dueGame(new int[][] {{0, 8, 0, 8}, {6, 0, 6, 0}, {0, 8, 0, 8}, {6, 0, 6, 0}}, "24/7", "3/7 4/7 0/1 0/1", "4/7 3/7 0/1 0/1");
        dueGame(new int[][] {{9, 9, 9, 9}, {9, 9, 9, 9}, {1, 0, 0, 8}, {1, 1, 6, 0}}, "24/7", "0/1 0/1 3/7 4/7", "0/1 0/1 4/7 3/7");
        // The last two guards with the first two carriers do it too.
        dueGame(new int[][] {{3, 3, 0, 6}, {3, 3, 6, 0}, {0, 6, 3, 3}, {6, 0, 3, 3}}, "3/1", "1/2 1/2 0/1 0/1", "0/1 0/1 1/2 1/2");
        // Guards 0 and 3 do it too, and so do carriers 0 and 3 below: 1 and 2 are less by bits.
        dueGame(new int[][] {{1, 5, 6}, {0, 6, 0}, {6, 0, 6}, {5, 1, 0}}, "3/1", "0/1 1/2 1/2 0/1", "1/2 1/2 0/1");
        dueGame(new int[][] {{1, 0, 6, 5}, {5, 6, 0, 1}, {0, 6, 0, 6}}, "3/1", "1/2 1/2 0/1", "0/1 1/2 1/2 0/1");
        Due.sentence(25, "no other GUARD less");
        // By the chances of the carriers a third guard has 27, 24, 21 of 7.
        dueGame(new int[][] {{0, 8}, {6, 0}, {3, 5}}, "24/7", "3/7 4/7 0/1", "4/7 3/7");
        dueGame(new int[][] {{0, 8}, {6, 0}, {3, 4}}, "24/7", "3/7 4/7 0/1", "4/7 3/7");
        dueNoSupport(new int[][] {{0, 8}, {6, 0}, {3, 3}});
        Due.sentence(25, "no other CARRIER better");
        // By the chances of the guards a third carrier has 3, 24 of 7, 4.
        dueGame(new int[][] {{0, 8, 3}, {6, 0, 3}}, "24/7", "3/7 4/7", "4/7 3/7 0/1");
        dueGame(new int[][] {{0, 8, 8}, {6, 0, 0}}, "24/7", "3/7 4/7", "4/7 3/7 0/1");
        dueNoSupport(new int[][] {{0, 8, 4}, {6, 0, 4}});
    }

    private static void widerSupports() {
        Due.sentence(25, "as many GUARDS as CARRIERS (one first, then two, ..)");
        dueGame(new int[][] {{0, 15, 20}, {12, 0, 20}, {12, 15, 0}}, "10/1", "1/6 1/3 1/2", "5/12 1/3 1/4");
        dueGame(new int[][] {{0, 12, 15, 20}, {12, 0, 15, 20}, {12, 12, 0, 20}, {12, 12, 15, 0}}, "180/17",
                "2/17 2/17 5/17 8/17", "5/17 5/17 4/17 3/17");
        dueGame(new int[][] {{2, 0, 6, 3}, {4, 2, 0, 3}, {4, 4, 5, 1}, {0, 5, 5, 2}}, "253/97",
                "31/194 99/194 6/97 26/97", "17/97 19/97 12/97 49/97");
        dueGame(new int[][] {{6, 0, 6, 0}, {4, 4, 2, 1}, {0, 5, 3, 6}, {6, 0, 0, 1}}, "408/137",
                "29/137 27/137 60/137 21/137", "61/137 27/137 7/137 42/137");
        // Two of the first two do it too, and three of the first three: those that are fewer come first.
        dueGame(new int[][] {{0, 6, 3}, {6, 0, 3}, {3, 3, 3}}, "3/1", "0/1 0/1 1/1", "0/1 0/1 1/1");
        dueGame(new int[][] {{0, 15, 20, 0}, {12, 0, 20, 0}, {12, 15, 0, 20}, {8, 5, 20, 0}}, "10/1",
                "0/1 0/1 1/2 1/2", "0/1 0/1 1/2 1/2");
        Due.sentence(25, "chances above 0");
        // With 4 on the third path two do it; with 5 it takes all three.
        dueGame(new int[][] {{0, 12, 4}, {6, 0, 4}, {6, 12, 0}}, "4/1", "1/3 2/3 0/1", "2/3 1/3 0/1");
        dueGame(new int[][] {{0, 12, 5}, {6, 0, 5}, {6, 12, 0}}, "40/9", "7/27 17/27 1/9", "10/27 5/27 4/9");
        dueGame(new int[][] {{0, 12, 3}, {6, 0, 3}, {6, 12, 0}}, "4/1", "1/3 2/3 0/1", "2/3 1/3 0/1");
        Due.sentence(25, "told by that alone (just one such way)");
        // The first two of each side are alike: many chances of theirs do it, and no others do.
        dueNoSupport(new int[][] {{4, 4, 0, 5}, {4, 4, 8, 0}, {0, 8, 4, 4}, {8, 3, 4, 4}});
    }

    /** A wide game first, then small ones on the same object: nothing of it is left over. */
    private static void gamesOneBehindAnother() {
        Due.sentence(25, "those that are told take part");
        BorderGuards x = game(new int[][] {{0, 12, 15, 20}, {12, 0, 15, 20}, {12, 12, 0, 20}, {12, 12, 15, 0}});
        dueChances(x, "180/17", "2/17 2/17 5/17 8/17", "5/17 5/17 4/17 3/17");
        int guard = x.guard(0, -1);
        int carrier = x.carrier(0, -1);
        dueChances(x, "10/1", "-1/-1 1/6 1/3 1/2", "-1/-1 5/12 1/3 1/4");
        int second = x.carrier(1, -1);
        // Guard 1 stops none of the two carriers that are left, so the others do it without it.
        dueChances(x, "60/7", "-1/-1 0/1 3/7 4/7", "-1/-1 -1/-1 4/7 3/7");
        int third = x.guard(3, -1);
        dueChances(x, "20/1", "-1/-1 1/1 0/1 -1/-1", "-1/-1 -1/-1 0/1 1/1");
        x.guard(3, third);
        x.carrier(1, second);
        x.carrier(0, carrier);
        x.guard(0, guard);
        dueChances(x, "180/17", "2/17 2/17 5/17 8/17", "5/17 5/17 4/17 3/17");
    }

    private static void noGame() {
        Due.sentence(24, "VALUE: above (part = 0), below (1). NO -2: none is told on one side; BAD -1");
        BorderGuards x = Due.land(TWO);
        int[] noParts = {Due.LEAST, -1, 2, 3, Due.GREATEST};
        for (int part = 0; part < 2; part++) {
            Due.is("value(" + part + ") with none told", x.value(part), NO);
        }
        x.guard(3, 1);
        Due.is("value(0) without a carrier", x.value(0), NO);
        Due.is("value(1) without a carrier", x.value(1), NO);
        Due.is("chance(0, 3, 0) without a carrier", x.chance(0, 3, 0), NO);
        for (int part : noParts) {
            Due.is("value(" + part + ") without a carrier: of several the first", x.value(part), BAD);
            Due.is("chance(0, 3, " + part + ") without a carrier: of several the first", x.chance(0, 3, part), BAD);
        }
        Due.is("chance(0, 0, 0) without a carrier: not told", x.chance(0, 0, 0), BAD);
        Due.is("chance(1, 0, 0) without a carrier: not told", x.chance(1, 0, 0), BAD);
        x.carrier(2, 1);
        Due.is("value(0)", x.value(0), 4);
        Due.is("value(1)", x.value(1), 1);
        for (int part : noParts) {
            Due.is("value(" + part + ")", x.value(part), BAD);
        }
        x.guard(3, -1);
        Due.is("value(0) without a guard", x.value(0), NO);
        Due.is("chance(1, 2, 1) without a guard", x.chance(1, 2, 1), NO);
        Due.is("chance(0, 3, 1) without a guard: not told", x.chance(0, 3, 1), BAD);
    }

    private static void noChance() {
        Due.sentence(25, "GUARD k (side = 0), CARRIER k (1): above (part = 0), below (1). BAD -1 (that is not told, too)");
        BorderGuards x = Due.land(TWO);
        x.guard(1, 1);
        x.carrier(3, 0);
        Due.is("chance(0, 1, 0)", x.chance(0, 1, 0), 1);
        Due.is("chance(0, 1, 1)", x.chance(0, 1, 1), 1);
        Due.is("chance(1, 3, 0)", x.chance(1, 3, 0), 1);
        Due.is("chance(1, 3, 1)", x.chance(1, 3, 1), 1);
        for (int k = 0; k < 4; k++) {
            Due.is("chance(0, " + k + ", 0)", x.chance(0, k, 0), k == 1 ? 1 : BAD);
            Due.is("chance(1, " + k + ", 0)", x.chance(1, k, 0), k == 3 ? 1 : BAD);
        }
        for (int n : new int[] {Due.LEAST, -1, 2, 3, Due.GREATEST}) {
            Due.is("chance(" + n + ", 1, 0)", x.chance(n, 1, 0), BAD);
            Due.is("chance(" + n + ", 3, 0)", x.chance(n, 3, 0), BAD);
            Due.is("chance(0, 1, " + n + ")", x.chance(0, 1, n), BAD);
            Due.is("chance(1, 3, " + n + ")", x.chance(1, 3, n), BAD);
        }
        for (int k : NO_LOTS) {
            Due.is("chance(0, " + k + ", 0)", x.chance(0, k, 0), BAD);
            Due.is("chance(1, " + k + ", 1)", x.chance(1, k, 1), BAD);
        }
        x.guard(2, 0);
        Due.is("chance(0, 2, 0): told, but no part of it", x.chance(0, 2, 0), 0);
        Due.is("chance(0, 2, 1): told, but no part of it", x.chance(0, 2, 1), 1);
        x.guard(2, -1);
        Due.is("chance(0, 2, 0): no more told", x.chance(0, 2, 0), BAD);
    }

    // ---- promise 26

    private static void tenthsAreTold() {
        Due.sentence(26, "p of GUARD g (0 to 10) for TOLD: what it was. BAD");
        BorderGuards x = new BorderGuards();
        for (int g = 0; g < 4; g++) {
            Due.is("tenths(" + g + ", 10) at first", x.tenths(g, 10), 0);
            Due.is("tenths(" + g + ", 0)", x.tenths(g, 0), 10);
            Due.is("tenths(" + g + ", " + (g + 1) + ")", x.tenths(g, g + 1), 0);
        }
        for (int g : NO_LOTS) {
            Due.is("tenths(" + g + ", 5)", x.tenths(g, 5), BAD);
        }
        for (int g = 0; g < 4; g++) {
            for (int p : new int[] {Due.LEAST, -1, 11, 12, Due.GREATEST}) {
                Due.is("tenths(" + g + ", " + p + ")", x.tenths(g, p), BAD);
            }
        }
        for (int g = 0; g < 4; g++) {
            Due.is("tenths(" + g + ", 0): each its own, none changed", x.tenths(g, 0), g + 1);
        }
    }

    // ---- promise 27

    private static void toldOrNot() {
        Due.sentence(27, "together 10; else NO");
        for (int together = 0; together <= 40; together++) {
            BorderGuards x = game(new int[][] {{0, 8}, {6, 0}, {1, 1}, {2, 2}});
            int left = together;
            for (int g = 0; g < 4; g++) {
                int p = Math.min(10, g == 3 ? left : left / 2);
                p = Math.max(p, left - 10 * (3 - g));
                x.tenths(g, p);
                left -= p;
            }
            // By guard 0 five tenths, then 2, 1, 2: 5*8 + 2*6 + 1 + 4 less 5*8 + 1 + 4.
            Due.is("told() of " + together + " tenths", x.told(), together == 10 ? 12 : NO);
        }
        Due.sentence(27, "NO: a GUARD with tenths is not told, no CARRIER");
        for (int g = 0; g < 4; g++) {
            BorderGuards x = Due.land(TWO);
            x.carrier(g, 0);
            x.tenths(g, 10);
            Due.is("told(): guard " + g + " is not told", x.told(), NO);
            x.guard((g + 1) % 4, 0);
            Due.is("told(): guard " + g + " is not told, another is", x.told(), NO);
            x.guard(g, 0);
            Due.is("told(): guard " + g + " is told", x.told(), 0);
            x.guard((g + 1) % 4, -1);
            Due.is("told(): a guard without tenths need not be", x.told(), 0);
            x.tenths(g, 9);
            x.tenths((g + 1) % 4, 1);
            Due.is("told(): one tenth of a guard that is not told", x.told(), NO);
            x.tenths((g + 1) % 4, 0);
            x.tenths(g, 10);
            x.carrier(g, -1);
            Due.is("told(): no carrier", x.told(), NO);
        }
        Due.sentence(27, "the mean of the greatest THROUGH less the greatest mean of one CARRIER: in tenths");
        BorderGuards nothing = game(new int[][] {{0, 0}, {9, 9}});
        nothing.tenths(0, 10);
        Due.is("told(): nothing comes through", nothing.told(), 0);
        BorderGuards alone = game(new int[][] {{0}, {9}});
        alone.tenths(0, 5);
        alone.tenths(1, 5);
        Due.is("told(): one carrier has no choice", alone.told(), 0);
        BorderGuards most = game(new int[][] {{0, 99}, {99, 0}});
        most.tenths(0, 5);
        most.tenths(1, 5);
        Due.is("told() at its greatest", most.told(), 495);
        most.tenths(0, 4);
        most.tenths(1, 6);
        Due.is("told()", most.told(), 396);
        most.tenths(0, 0);
        most.tenths(1, 10);
        Due.is("told(): nothing is new", most.told(), 0);
    }

    // ---- promise 28

    private static void nightsAtTheirEdges() {
        Due.sentence(28, "n (1 to 8) nights, at most d (0 to 15) bits. BAD; NO: no GUARD is told");
        BorderGuards x = Due.land(TWO);
        for (int n = 1; n <= 8; n++) {
            Due.is("nights(" + n + ", 0) without a guard", x.nights(n, 0), NO);
            Due.is("nights(" + n + ", 15) without a guard", x.nights(n, 15), NO);
        }
        for (int told = 0; told < 2; told++) {
            for (int n : new int[] {Due.LEAST, -1, 0, 9, 10, Due.GREATEST}) {
                Due.is("nights(" + n + ", 0)", x.nights(n, 0), BAD);
                Due.is("nights(" + n + ", 15)", x.nights(n, 15), BAD);
            }
            for (int d : new int[] {Due.LEAST, -1, 16, 17, Due.GREATEST}) {
                Due.is("nights(1, " + d + ")", x.nights(1, d), BAD);
                Due.is("nights(8, " + d + ")", x.nights(8, d), BAD);
            }
            x.guard(2, 1);
        }
        Due.sentence(28, "never the same GUARD twice running (if there are two or more)");
        for (int n = 1; n <= 8; n++) {
            Due.is("nights(" + n + ", 0) with one guard", x.nights(n, 0), 4 * n);
        }
        x.guard(0, 3);
        for (int n = 1; n <= 8; n++) {
            // By guard 0 come 2, by guard 2 4: one after the other.
            Due.is("nights(" + n + ", 1) with two guards", x.nights(n, 1), n % 2 == 1 ? 3 * n - 1 : 3 * n);
            Due.is("nights(" + n + ", 0) with two guards", x.nights(n, 0), n == 1 ? 2 : NONE);
        }
        x.guard(1, 3);
        for (int n = 1; n <= 8; n++) {
            Due.is("nights(" + n + ", 0) with two guards of the same posts", x.nights(n, 0), 2 * n);
        }
    }

    private static void nightsBits() {
        Due.sentence(28, "from one night to the next at most d bits become unlike; none");
        String land = Due.times(12, "p0,7,1,0,0,100,0;") + "t0,1,0;t0,1,0;t0,1,0;";
        for (int bits = 0; bits <= 15; bits++) {
            BorderGuards x = Due.land(land);
            x.guard(0, 0);
            x.guard(3, (1 << bits) - 1);
            int second = 12 - Math.min(12, bits);
            for (int d = 0; d <= 15; d++) {
                Due.is("nights(2, " + d + ") of guards " + bits + " bits apart", x.nights(2, d), d >= bits ? 12 + second : NONE);
            }
            Due.is("nights(1, 0) of guards " + bits + " bits apart", x.nights(1, 0), second);
            Due.is("nights(3, 15) of guards " + bits + " bits apart", x.nights(3, 15), 12 + 2 * second);
        }
        // Guard 2 is near to guard 0 alone, and guard 1 to none.
        BorderGuards x = Due.land(land);
        x.guard(0, 15);
        x.guard(1, 4080);
        x.guard(2, 7);
        Due.is("nights(1, 1): the least of all", x.nights(1, 1), 4);
        Due.is("nights(2, 1): guard 1 stands alone", x.nights(2, 1), 17);
        Due.is("nights(3, 1)", x.nights(3, 1), 25);
        Due.is("nights(2, 11)", x.nights(2, 11), 13);
        Due.is("nights(2, 12)", x.nights(2, 12), 12);
        Due.is("nights(8, 12)", x.nights(8, 12), 48);
        BorderGuards none = new BorderGuards();
        none.guard(0, 0);
        Due.is("nights(8, 0) of no land", none.nights(8, 0), 0);
    }

    // ---- promises 29 and 30

    private static void keepTwo() {
        Due.sentence(29, "KEPT: how many: 2 at most. FULL");
        BorderGuards x = new BorderGuards();
        Due.is("keep()", x.keep(), 1);
        Due.is("keep()", x.keep(), 2);
        Due.is("keep() of a third", x.keep(), FULL);
        Due.is("keep() of a third again", x.keep(), FULL);
        Due.is("count(6)", x.count(6), 2);
        Due.is("back()", x.back(), 1);
        Due.is("keep() where there is room", x.keep(), 2);
        Due.is("keep() of a third", x.keep(), FULL);
        Due.sentence(30, "how many are left. NO");
        Due.is("back()", x.back(), 1);
        Due.is("back()", x.back(), 0);
        Due.is("back() with none left", x.back(), NO);
        Due.is("back() with none left again", x.back(), NO);
        Due.is("count(6)", x.count(6), 0);
        Due.is("keep() behind that", x.keep(), 1);
    }

    private static void lay(BorderGuards x, int n) {
        Due.relay(x, Due.times(n, "p0,7," + n + ",1,1,50,3;") + "t0,1,1;c" + n + ";v" + n + ";o" + n + ";");
        for (int k = 0; k < 4; k++) {
            x.guard(k, n * (k + 1) % (1 << n));
            x.carrier(k, k % n);
        }
    }

    private static void dueLaid(BorderGuards x, int n) {
        for (int what = 0; what < 5; what++) {
            Due.is("count(" + what + ") of land " + n, x.count(what), what == 1 ? 1 : n);
        }
        Due.is("path(" + (n - 1) + ", 2) of land " + n, x.path(n - 1, 2), n);
        Due.is("path(" + n + ", 2) of land " + n, x.path(n, 2), BAD);
        Due.is("most(0, 0) of land " + n, x.most(0, 0), n * n);
        Due.is("way(-1, -1) of land " + n, x.way(-1, -1), n);
        Due.is("fewest(n * n - 1) of land " + n, x.fewest(n * n - 1), 1);
        Due.is("leastPay() of land " + n, x.leastPay(), (1 << n) - 1);
        for (int k = 0; k < 4; k++) {
            Due.is("guard " + k + " of land " + n, x.guard(k, -1), n * (k + 1) % (1 << n));
            Due.is("carrier " + k + " of land " + n, x.carrier(k, -1), k % n);
        }
    }

    private static void backLast() {
        Due.sentence(30, "As KEPT last: THE LAND, GUARDS, CARRIERS");
        BorderGuards x = new BorderGuards();
        lay(x, 5);
        x.keep();
        x.guard(0, -1);
        x.carrier(1, 0);
        lay(x, 4);
        x.keep();
        lay(x, 3);
        Due.is("keep() of a third", x.keep(), FULL);
        x.row(0, 7);
        x.tenths(0, 8);
        int text = x.count(5);
        Due.is("back()", x.back(), 1);
        dueLaid(x, 4);
        Due.is("back()", x.back(), 0);
        dueLaid(x, 5);
        Due.is("back() with none left", x.back(), NO);
        Due.is("count(0): nothing changes then", x.count(0), 5);
        Due.sentence(30, "THE TEXT, the ROW and the tenths are not KEPT");
        Due.is("row(0, 0)", x.row(0, 0), 7);
        Due.is("tenths(0, 0)", x.tenths(0, 0), 8);
        Due.is("count(5)", x.count(5), text);
        Due.is("lay() of THE TEXT", x.lay(), 3);
        Due.sentence(29, "what is KEPT stays through lay and wipe");
        x.keep();
        x.wipe();
        Due.is("count(6) behind wipe", x.count(6), 1);
        x.lay();
        Due.is("count(6) behind lay", x.count(6), 1);
        x.back();
        Due.is("count(0)", x.count(0), 3);
    }

    public static void main(String[] args) {
        guardsAreTold();
        carriersAreTold();
        supportsOfOne();
        supportsOfTwo();
        widerSupports();
        gamesOneBehindAnother();
        noGame();
        noChance();
        tenthsAreTold();
        toldOrNot();
        nightsAtTheirEdges();
        nightsBits();
        keepTwo();
        backLast();
        Due.end();
    }
}
