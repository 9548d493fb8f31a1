/** The edges of promises 9 to 16: what comes through at most, the row, and the posts that hold it down. */
public final class MostEdgesTest {
    private static final int BAD = Due.BAD, NONE = Due.NONE;
    private static final int[] NO_PATHS = {Due.LEAST, -32, -1, 12, 13, 32, 4096, Due.GREATEST};
    // Twelve paths side by side, 99 loads each; a post costs 20 and stops all.
    private static final String WIDE = Due.times(12, "p0,7,99,0,20,100,9;");

    // ---- promise 9

    private static void dueMost(BorderGuards x, int posts, int most, int shore, int holds) {
        Due.is("most(" + posts + ", 0)", x.most(posts, 0), most);
        Due.is("most(" + posts + ", 1)", x.most(posts, 1), shore);
        Due.is("most(" + posts + ", 2)", x.most(posts, 2), holds);
    }

    private static void mostOfNothingAndAll() {
        Due.sentence(9, "the most LOADS a night from 0 to 7");
        dueMost(new BorderGuards(), 0, 0, 1, 0);
        dueMost(Due.land("p0,7,0,0,0,0,0;"), 0, 0, 1, 1);
        dueMost(Due.land("p0,7,1,0,0,0,0;"), 0, 1, 1, 1);
        dueMost(Due.land("p7,0,99,0,0,0,0;"), 0, 0, 1, 0);
        dueMost(Due.land("p0,6,99,0,0,0,0;p5,7,99,0,0,0,0;"), 0, 0, 65, 0);
        BorderGuards wide = Due.land(WIDE);
        dueMost(wide, 0, 1188, 1, 4095);
        dueMost(wide, 4095, 0, 1, 4095);
        dueMost(wide, 2047, 99, 1, 4095);
        dueMost(wide, 2048, 1089, 1, 4095);
        Due.sentence(9, "MOST (what = 0), THE SHORE (1), HOLDS (2). BAD");
        for (int what : new int[] {Due.LEAST, -1, 3, 4, Due.GREATEST}) {
            Due.is("most(0, " + what + ")", wide.most(0, what), BAD);
            Due.is("most(4096, " + what + ")", wide.most(4096, what), BAD);
        }
        Due.is("most(4096, 0)", wide.most(4096, 0), BAD);
    }

    private static String chain(int... loads) {
        StringBuilder text = new StringBuilder();
        for (int i = 0; i < loads.length; i++) {
            text.append("p").append(i).append(",").append(i + 1).append(",").append(loads[i]).append(",0,1,100,0;");
        }
        return text.toString();
    }

    private static void mostOfASmallerLand() {
        Due.sentence(9, "the most LOADS a night: of the paths that are there");
        BorderGuards x = Due.land(WIDE);
        Due.relay(x, "p0,1,9,0,0,0,0;p1,7,5,0,0,0,0;");
        dueMost(x, 0, 5, 3, 2);
        Due.relay(x, "");
        dueMost(x, 0, 0, 1, 0);
    }

    private static void shoreOfChains() {
        Due.sentence(9, "SHORE: places to which more could come: those that are so whatever ways they go");
        for (int narrow = 0; narrow < 7; narrow++) {
            int[] loads = {9, 9, 9, 9, 9, 9, 9};
            loads[narrow] = 8;
            // More could come up to the place ahead of the narrow path, and no farther.
            dueMost(Due.land(chain(loads)), 0, 8, (2 << narrow) - 1, 1 << narrow);
            for (int second = narrow + 1; second < 7; second++) {
                loads[second] = 8;
                dueMost(Due.land(chain(loads)), 0, 8, (2 << narrow) - 1, 1 << narrow);
                loads[second] = 9;
            }
            BorderGuards x = Due.land(chain(9, 9, 9, 9, 9, 9, 9));
            dueMost(x, 0, 9, 1, 1);
            dueMost(x, 1 << narrow, 0, (2 << narrow) - 1, 1 << narrow);
        }
    }

    private static void shoreWhateverWays() {
        Due.sentence(9, "those that are so whatever ways they go");
        // Five may go by place 1 or by place 2 or by both: by each of them one more could come.
        BorderGuards x = Due.land("p0,1,5,0,0,0,0;p0,2,5,0,0,0,0;p1,3,5,0,0,0,0;p2,3,5,0,0,0,0;p3,7,5,0,0,0,0;");
        dueMost(x, 0, 5, 15, 16);
        // As above, but nothing is left over ahead of places 1 and 2.
        BorderGuards y = Due.land("p0,1,2,0,0,0,0;p0,2,3,0,0,0,0;p1,3,5,0,0,0,0;p2,3,5,0,0,0,0;p3,7,5,0,0,0,0;");
        dueMost(y, 0, 5, 1, 3);
        // Place 2 is reached only by taking back what goes from 1 to 2.
        BorderGuards z = Due.land("p0,1,4,0,0,0,0;p0,2,4,0,0,0,0;p1,2,4,0,0,0,0;p2,7,4,0,0,0,0;p1,7,1,0,0,0,0;");
        dueMost(z, 0, 5, 7, 24);
        // What is sent from 2 to 1 must not be: yet place 2 is where more could come.
        BorderGuards back = Due.land("p0,2,3,0,0,0,0;p2,1,1,0,0,0,0;p0,1,1,0,0,0,0;p1,7,1,0,0,0,0;p2,7,1,0,0,0,0;");
        dueMost(back, 0, 2, 7, 24);
        Due.sentence(9, "HOLDS: PATHS out of THE SHORE");
        // Paths within, into and beyond THE SHORE are none; one that bears 0 goes out too.
        BorderGuards w = Due.land("p0,1,9,0,0,0,0;p1,0,9,0,0,0,0;p1,7,1,0,0,0,0;p7,1,9,0,0,0,0;p2,1,9,0,0,0,0;p2,7,9,0,0,0,0;p1,3,0,0,0,0,0;");
        dueMost(w, 0, 1, 3, 68);
    }

    // ---- promise 10

    private static void rowTakes() {
        Due.sentence(10, "12 numbers, 0 to 99 each; 0 at first: what they were. BAD");
        BorderGuards x = new BorderGuards();
        for (int p = 0; p < 12; p++) {
            Due.is("row(" + p + ", 99) at first", x.row(p, 99), 0);
            Due.is("row(" + p + ", 0)", x.row(p, 0), 99);
            Due.is("row(" + p + ", " + (p + 1) + ")", x.row(p, p + 1), 0);
        }
        for (int p : NO_PATHS) {
            Due.is("row(" + p + ", 5)", x.row(p, 5), BAD);
        }
        for (int p = 0; p < 12; p++) {
            for (int loads : new int[] {Due.LEAST, -1, 100, 101, 256 + 5, Due.GREATEST}) {
                Due.is("row(" + p + ", " + loads + ")", x.row(p, loads), BAD);
            }
        }
        for (int p = 0; p < 12; p++) {
            Due.is("row(" + p + ", 0): each its own, none changed", x.row(p, 0), p + 1);
        }
    }

    // ---- promise 11

    private static void judgePaths() {
        Due.sentence(11, "the first PATH that bears less (code PATH; one that is not there bears 0)");
        for (int p = 0; p < 12; p++) {
            BorderGuards x = Due.land(Due.times(12, "p0,7,50,0,0,50,0;"));
            x.row(p, 50);
            Due.is("judge(0): as much as it bears", x.judge(0), 250);
            Due.is("judge by a post on another", x.judge(4095 & ~(1 << p)), 250);
            Due.is("judge by a post on it", x.judge(1 << p), p);
            x.row(p, 51);
            Due.is("judge(0): one more than it bears", x.judge(0), p);
            x.row(p, 25);
            Due.is("judge by a post on it: as much as it bears", x.judge(1 << p), 225);
            x.row(p, 26);
            Due.is("judge by a post on it: one more", x.judge(1 << p), p);
            x.row(11, 99);
            Due.is("judge(0): the first", x.judge(1 << p), p);
            BorderGuards none = Due.land(Due.times(p, "p0,7,50,0,0,50,0;"));
            none.row(p, 1);
            Due.is("judge(0): path " + p + " is not there", none.judge(0), p);
            none.row(p, 0);
            Due.is("judge(0): no loads on it", none.judge(0), 200);
        }
        BorderGuards fewer = Due.land(WIDE);
        Due.relay(fewer, "p0,7,50,0,0,50,0;");
        for (int p = 1; p < 12; p++) {
            fewer.row(p, 1);
            Due.is("judge(0): path " + p + " is there no more", fewer.judge(0), p);
            fewer.row(p, 0);
        }
        Due.relay(fewer, "");
        fewer.row(0, 1);
        Due.is("judge(0): no path is there any more", fewer.judge(0), 0);
        BorderGuards tower = Due.land("p0,7,9,0,0,100,0;p0,7,9,0,0,100,0;t1,0,0;");
        tower.row(1, 1);
        Due.is("judge(0)", tower.judge(0), 201);
        Due.is("judge(4096): a tower sees it", tower.judge(4096), 1);
        Due.is("judge(8192)", tower.judge(8192), BAD);
        Due.is("judge(4)", tower.judge(4), BAD);
    }

    private static void judgePlaces() {
        Due.sentence(11, "the first place (not 0, 7) into which not as many come as go out (code 100 and the place)");
        for (int place = 1; place < 7; place++) {
            BorderGuards x = Due.land("p0," + place + ",9,0,0,0,0;p" + place + ",7,9,0,0,0,0;");
            x.row(0, 4);
            x.row(1, 4);
            Due.is("judge(0): as many", x.judge(0), 204);
            x.row(1, 3);
            Due.is("judge(0): one less goes out", x.judge(0), 100 + place);
            x.row(1, 5);
            Due.is("judge(0): one more goes out", x.judge(0), 100 + place);
            x.row(1, 10);
            Due.is("judge(0): a path is ahead of a place", x.judge(0), 1);
        }
        BorderGuards x = Due.land("p0,6,9,0,0,0,0;p0,2,9,0,0,0,0;p0,5,9,0,0,0,0;p6,5,9,0,0,0,0;");
        x.row(0, 1);
        Due.is("judge(0)", x.judge(0), 106);
        x.row(2, 1);
        Due.is("judge(0): the first of two", x.judge(0), 105);
        x.row(1, 1);
        Due.is("judge(0): the first of three", x.judge(0), 102);
        x.row(1, 0);
        x.row(2, 0);
        x.row(3, 1);
        Due.is("judge(0): what comes to 6 goes on to 5", x.judge(0), 105);
    }

    private static void judgeArrivals() {
        Due.sentence(11, "else 200 and how many come to 7 more than go from it (0 at least; else code 199)");
        Due.is("judge(0) of the empty land", new BorderGuards().judge(0), 200);
        BorderGuards x = Due.land("p0,7,99,0,0,0,0;p7,0,99,0,0,0,0;");
        int[][] due = {{0, 0, 200}, {1, 0, 201}, {1, 1, 200}, {0, 1, 199}, {1, 2, 199}, {0, 99, 199}, {99, 99, 200}, {99, 98, 201},
            {98, 99, 199}, {99, 0, 299}};
        for (int[] row : due) {
            x.row(0, row[0]);
            x.row(1, row[1]);
            Due.is("judge(0) of " + row[0] + " and " + row[1] + " back", x.judge(0), row[2]);
        }
        BorderGuards wide = Due.land(WIDE);
        for (int p = 0; p < 12; p++) {
            wide.row(p, 99);
        }
        Due.is("judge(0) of the most that there can be", wide.judge(0), 200 + 1188);
        BorderGuards ring = Due.land("p1,2,9,0,0,0,0;p2,1,9,0,0,0,0;p1,0,9,0,0,0,0;p0,1,9,0,0,0,0;");
        for (int p = 0; p < 4; p++) {
            ring.row(p, 9);
        }
        Due.is("judge(0) of rings", ring.judge(0), 200);
    }

    // ---- promise 12

    private static void bestCoin() {
        Due.sentence(12, "BEST for N coin (0 to 300): POSTS (what = 0), MOST (1), COST (2). BAD");
        BorderGuards x = Due.land(WIDE);
        for (int coin = 0; coin <= 300; coin += coin % 20 == 19 || coin % 20 == 0 ? 1 : 18) {
            int posts = Math.min(12, coin / 20);
            Due.is("best(" + coin + ", 0)", x.best(coin, 0), (1 << posts) - 1);
            Due.is("best(" + coin + ", 1)", x.best(coin, 1), 99 * (12 - posts));
            Due.is("best(" + coin + ", 2)", x.best(coin, 2), 20 * posts);
        }
        for (int coin : new int[] {Due.LEAST, -1, 301, 302, Due.GREATEST}) {
            for (int what = 0; what < 3; what++) {
                Due.is("best(" + coin + ", " + what + ")", x.best(coin, what), BAD);
            }
        }
        for (int what : new int[] {Due.LEAST, -1, 3, 4, Due.GREATEST}) {
            Due.is("best(0, " + what + ")", x.best(0, what), BAD);
            Due.is("best(300, " + what + ")", x.best(300, what), BAD);
        }
        Due.sentence(12, "BEST for N coin of no land");
        BorderGuards none = new BorderGuards();
        for (int coin : new int[] {0, 300}) {
            for (int what = 0; what < 3; what++) {
                Due.is("best(" + coin + ", " + what + ")", none.best(coin, what), 0);
            }
        }
    }

    private static void bestCostAndTies() {
        Due.sentence(12, "POSTS of COST N or less");
        for (int w = 0; w <= 20; w++) {
            BorderGuards x = Due.land("p0,7,9,0," + w + ",100,0;");
            Due.is("best(" + w + ", 1)", x.best(w, 1), 0);
            if (w > 0) {
                Due.is("best(" + (w - 1) + ", 1)", x.best(w - 1, 1), 9);
            }
        }
        Due.sentence(12, "by which MOST is least; of several the least bits");
        BorderGuards tie = Due.land("p0,7,9,0,3,0,0;p0,7,9,0,3,100,0;p0,7,9,0,3,100,0;p0,7,9,0,0,0,0;t1,3,3;");
        Due.is("best(2, 0): no post brings less", tie.best(2, 0), 0);
        Due.is("best(3, 0): path 1, path 2 and the tower are alike", tie.best(3, 0), 2);
        Due.is("best(5, 0)", tie.best(5, 0), 2);
        Due.is("best(6, 0): not the post on path 0, that stops none", tie.best(6, 0), 6);
        Due.is("best(300, 0)", tie.best(300, 0), 6);
        Due.is("best(300, 2)", tie.best(300, 2), 6);
        BorderGuards dear = Due.land("p0,1,9,0,9,100,0;p1,7,9,0,2,100,0;");
        Due.is("best(9, 0): the least bits, not the least coin", dear.best(9, 0), 1);
        Due.is("best(9, 2)", dear.best(9, 2), 9);
        Due.is("best(8, 0)", dear.best(8, 0), 2);
        Due.is("best(8, 2)", dear.best(8, 2), 2);
        BorderGuards free = Due.land("p0,7,9,0,0,100,0;p0,7,9,0,1,100,0;t0,1,0;");
        Due.is("best(0, 0): posts and towers for no coin", free.best(0, 0), 4096);
        Due.is("best(1, 0)", free.best(1, 0), 3);
    }

    // ---- promise 13

    private static void fewestFor() {
        Due.sentence(13, "the least COST of POSTS by which MOST is L or less; (0 to 9999); NONE; BAD");
        BorderGuards x = Due.land(WIDE);
        for (int posts = 0; posts <= 12; posts++) {
            int most = 99 * (12 - posts);
            Due.is("fewest(" + most + ")", x.fewest(most), 20 * posts);
            Due.is("fewest(" + (most + 1) + ")", x.fewest(most + 1), 20 * posts);
            if (most > 0) {
                Due.is("fewest(" + (most - 1) + ")", x.fewest(most - 1), 20 * posts + 20);
            }
        }
        Due.is("fewest(9998)", x.fewest(9998), 0);
        Due.is("fewest(9999)", x.fewest(9999), 0);
        for (int l : new int[] {Due.LEAST, -1, 10000, 10001, Due.GREATEST}) {
            Due.is("fewest(" + l + ")", x.fewest(l), BAD);
        }
        BorderGuards y = Due.land("p0,7,50,0,20,98,0;");
        Due.is("fewest(0): one comes through all the same", y.fewest(0), NONE);
        Due.is("fewest(1)", y.fewest(1), 20);
        Due.is("fewest(49)", y.fewest(49), 20);
        Due.is("fewest(50)", y.fewest(50), 0);
        Due.is("fewest(0) of no land", new BorderGuards().fewest(0), 0);
        Due.sentence(13, "of all POSTS: THE LAND's coin does not matter");
        BorderGuards z = Due.land("p0,7,9,0,20,100,0;p0,7,9,0,20,100,0;t0,1,20;c0;");
        Due.is("fewest(0): a tower for less than two posts", z.fewest(0), 20);
        Due.is("fewest(9)", z.fewest(9), 20);
    }

    // ---- promise 14

    private static void moreCoin() {
        Due.sentence(14, "BEST for THE LAND's coin and one more is less than that of BEST for its coin");
        for (int w = 1; w <= 20; w++) {
            for (int coin : new int[] {0, w - 2, w - 1, w, w + 1, 299, 300}) {
                if (coin >= 0) {
                    BorderGuards x = Due.land("p0,7,9,0," + w + ",100,0;c" + coin + ";");
                    Due.is("more() with " + coin + " coin, a post for " + w, x.more(), coin == w - 1 ? 9 : 0);
                }
            }
        }
        Due.is("more() of no land", new BorderGuards().more(), 0);
        Due.is("more() at 239", Due.land(WIDE + "c239;").more(), 99);
        Due.is("more() at 240", Due.land(WIDE + "c240;").more(), 0);
        Due.is("more() at 238", Due.land(WIDE + "c238;").more(), 0);
        Due.is("more() at 300: none costs 301", Due.land(WIDE + "c300;").more(), 0);
    }

    // ---- promise 15

    private static void oneMoreLoad() {
        Due.sentence(15, "by how much MOST by POSTS is more, if a PATH has C and one. BAD");
        BorderGuards x = Due.land("p0,1,99,0,0,50,0;p1,7,99,0,0,50,0;p0,7,99,0,0,100,0;p0,7,0,0,0,0,0;");
        int[][] due = {{0, 0, 0}, {0, 1, 0}, {0, 2, 1}, {0, 3, 1}, {1, 0, 1}, {1, 1, 0}, {2, 1, 1}, {3, 0, 0}, {4, 2, 0}, {8, 3, 1}};
        for (int[] row : due) {
            Due.is("oneMore(" + row[0] + ", " + row[1] + ")", x.oneMore(row[0], row[1]), row[2]);
        }
        for (int p : new int[] {Due.LEAST, -1, 4, 5, 11, 12, 32, Due.GREATEST}) {
            Due.is("oneMore(0, " + p + ")", x.oneMore(0, p), BAD);
        }
        Due.is("oneMore(16, 0)", x.oneMore(16, 0), BAD);
        Due.is("oneMore(4096, 0)", x.oneMore(4096, 0), BAD);
        Due.is("oneMore(0, 0) of no land", new BorderGuards().oneMore(0, 0), BAD);
        Due.is("path(2, 2): C is as it was", x.path(2, 2), 99);
        Due.is("most(0, 0): MOST is as it was", x.most(0, 0), 198);
        Due.sentence(15, "C and one, times (100 less Z) by 100, cut");
        for (int c = 0; c < 100; c++) {
            BorderGuards y = Due.land("p0,7," + c + ",0,0,75,0;");
            Due.is("oneMore(1, 0) of C " + c + ", Z 75", y.oneMore(1, 0), c % 4 == 3 ? 1 : 0);
        }
        BorderGuards wide = Due.land(WIDE);
        Due.is("oneMore(0, 11)", wide.oneMore(0, 11), 1);
        Due.is("oneMore(0, 12)", wide.oneMore(0, 12), BAD);
    }

    // ---- promise 16

    private static void weighedNumbers() {
        Due.sentence(16, "by a, b (0 to 99): POSTS (what = 0), the sum (1). BAD");
        BorderGuards x = Due.land("p0,7,10,0,1,100,7;p0,7,3,0,1,100,5;c1;");
        int[][] due = {{0, 0, 0, 0}, {0, 99, 0, 0}, {99, 0, 1, 297}, {99, 99, 1, 990}, {1, 1, 1, 10}, {0, 1, 0, 0}, {1, 0, 1, 3}, {1, 2, 0, 13},
            {7, 10, 0, 91}, {7, 9, 1, 84}};
        for (int[] row : due) {
            String call = "weighed(" + row[0] + ", " + row[1] + ", ";
            Due.is(call + "0)", x.weighed(row[0], row[1], 0), row[2]);
            Due.is(call + "1)", x.weighed(row[0], row[1], 1), row[3]);
        }
        for (int n : new int[] {Due.LEAST, -1, 100, 101, Due.GREATEST}) {
            for (int what = 0; what < 2; what++) {
                Due.is("weighed(" + n + ", 0, " + what + ")", x.weighed(n, 0, what), BAD);
                Due.is("weighed(0, " + n + ", " + what + ")", x.weighed(0, n, what), BAD);
            }
        }
        for (int what : new int[] {Due.LEAST, -1, 2, 3, Due.GREATEST}) {
            Due.is("weighed(1, 1, " + what + ")", x.weighed(1, 1, what), BAD);
        }
        Due.is("weighed(99, 99, 1) of the most that there can be", Due.land(WIDE).weighed(99, 99, 1), 99 * 1188);
        Due.is("weighed(99, 99, 0) of no land", new BorderGuards().weighed(99, 99, 0), 0);
        Due.is("weighed(99, 99, 1) of no land", new BorderGuards().weighed(99, 99, 1), 0);
    }

    private static void weighedCoinAndTies() {
        Due.sentence(16, "POSTS of COST no more than THE LAND's coin");
        String paths = "p0,7,9,0,7,100,1;";
        for (int coin : new int[] {0, 6, 7, 8, 300}) {
            BorderGuards x = Due.land(paths + "c" + coin + ";");
            Due.is("weighed(1, 1, 0) with " + coin + " coin", x.weighed(1, 1, 0), coin >= 7 ? 1 : 0);
            Due.is("weighed(1, 1, 1) with " + coin + " coin", x.weighed(1, 1, 1), coin >= 7 ? 1 : 9);
        }
        BorderGuards wide = Due.land(WIDE + "c240;");
        Due.is("weighed(1, 0, 0) with 240 coin", wide.weighed(1, 0, 0), 4095);
        Due.is("weighed(1, 0, 0) with 239 coin", Due.land(WIDE + "c239;").weighed(1, 0, 0), 2047);
        Due.sentence(16, "is least; of several the least bits");
        BorderGuards x = Due.land("p0,7,4,0,1,100,4;p0,7,4,0,1,100,3;p0,7,4,0,1,100,3;t1,2,2;c2;");
        Due.is("weighed(1, 1, 0): as two posts, so the tower: the least bits", x.weighed(1, 1, 0), 6);
        Due.is("weighed(3, 4, 0): all sums are alike but that with path 0", x.weighed(3, 4, 0), 0);
        Due.is("weighed(0, 0, 0): all sums are alike", x.weighed(0, 0, 0), 0);
        BorderGuards far = Due.land("p0,7,9,0,20,100,0;p0,7,9,0,20,100,0;p0,7,9,0,1,50,0;t0,1,1;c1;");
        Due.is("weighed(1, 0, 0): the least sum, not the least bits", far.weighed(1, 0, 0), 4096);
        BorderGuards alike = Due.land("p0,7,9,0,20,50,0;p0,7,9,0,20,50,0;p0,7,10,0,1,100,0;t0,1,1;c1;");
        Due.is("weighed(1, 0, 0): a tower and a post are alike", alike.weighed(1, 0, 0), 4);
        BorderGuards cheap = Due.land("p0,7,4,0,2,100,4;p0,7,4,0,1,100,3;p0,7,4,0,1,100,3;t1,2,1;c1;");
        Due.is("weighed(1, 1, 0): the tower for one coin", cheap.weighed(1, 1, 0), 4096);
        Due.is("weighed(1, 1, 1)", cheap.weighed(1, 1, 1), 10);
    }

    public static void main(String[] args) {
        mostOfNothingAndAll();
        mostOfASmallerLand();
        shoreOfChains();
        shoreWhateverWays();
        rowTakes();
        judgePaths();
        judgePlaces();
        judgeArrivals();
        bestCoin();
        bestCostAndTies();
        fewestFor();
        moreCoin();
        oneMoreLoad();
        weighedNumbers();
        weighedCoinAndTies();
        Due.end();
    }
}
