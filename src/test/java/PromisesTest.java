/** For each promise: ordinary calls, the edges that the document names, and wrong numbers. */
public final class PromisesTest {
    private static final int BAD = Due.BAD, NO = Due.NO, FULL = Due.FULL, NONE = Due.NONE;
    private static final long PART = Due.PARTS;
    private static final String TWELVE = "p0,1,1,1,1,1,1;p1,2,1,1,1,1,1;p2,3,1,1,1,1,1;p3,4,1,1,1,1,1;"
            + "p4,5,1,1,1,1,1;p5,6,1,1,1,1,1;p6,7,1,1,1,1,1;p7,6,1,1,1,1,1;p6,5,1,1,1,1,1;p5,4,1,1,1,1,1;"
            + "p4,3,1,1,1,1,1;p3,2,1,1,1,1,1;";
    // Two ways: 0 by 1 to 7 (paths 0, 1) and straight (path 2); a tower sees paths 0 and 2.
    private static final String SMALL =
            "p0,1,10,5,3,50,2;p1,7,8,5,4,100,7;p0,7,3,20,2,30,1;t0,2,6;c5;v50;o9;";

    private static void due(int promise, String what, long got, long want) {
        Due.is(promise, what, got, want);
    }

    private static void write(BorderGuards x, String text) {
        Due.write(x, text);
    }

    private static BorderGuards land(String text) {
        return Due.land(text);
    }

    private static void relay(BorderGuards x, String text) {
        Due.relay(x, text);
    }

    private static void newObject() {
        BorderGuards x = new BorderGuards();
        int[] counts = {0, 0, 0, 100, 0, 0, 0};
        for (int what = 0; what < 7; what++) {
            due(1, "count(" + what + ")", x.count(what), counts[what]);
        }
        due(1, "fault()", x.fault(), NONE);
        due(1, "wipe()", x.wipe(), 0);
        due(1, "most(0, 0)", x.most(0, 0), 0);
        due(1, "most(0, 1)", x.most(0, 1), 1);
        due(1, "most(0, 2)", x.most(0, 2), 0);
        due(1, "best(300, 0)", x.best(300, 0), 0);
        due(1, "weighed(9, 9, 1)", x.weighed(9, 9, 1), 0);
        due(1, "way(-1, -1)", x.way(-1, -1), 0);
        due(1, "leastPay()", x.leastPay(), 0);
        for (int k = 0; k < 4; k++) {
            due(1, "guard", x.guard(k, -1), -1);
            due(1, "carrier", x.carrier(k, -1), -1);
            due(1, "tenths", x.tenths(k, 0), 0);
        }
        for (int p = 0; p < 12; p++) {
            due(1, "row", x.row(p, 0), 0);
        }
        due(1, "judge(0)", x.judge(0), 200);
        BorderGuards y = land(SMALL);
        due(1, "count(0) of another", x.count(0), 0);
        due(1, "count(0) of the second", y.count(0), 3);
    }

    private static void writing() {
        BorderGuards x = new BorderGuards();
        for (int n : new int[] {0, 9, -1, Integer.MIN_VALUE, Integer.MAX_VALUE}) {
            due(2, "write(" + n + ", 0)", x.write(n, 0), BAD);
        }
        due(2, "count(5)", x.count(5), 0);
        due(2, "write(1, c and much above)", x.write(1, 0x7777777777777763L), 1);
        due(2, "write(3, 12;)", x.write(3, 0xff31323bL), 4);
        due(2, "fault() of c12;", x.fault(), NONE);
        x.lay();
        due(2, "count(2)", x.count(2), 12);
        for (int i = 0; i < 49; i++) {
            x.write(8, -1L);
        }
        due(2, "count(5)", x.count(5), 396);
        due(2, "write(5, 0) at 396", x.write(5, 0), FULL);
        due(2, "write(9, 0) at 396", x.write(9, 0), BAD);
        due(2, "count(5)", x.count(5), 396);
        due(2, "write(4, 0) at 396", x.write(4, 0), 400);
        due(2, "write(1, 0) at 400", x.write(1, 0), FULL);
        due(2, "write(0, 0) at 400", x.write(0, 0), BAD);
        due(2, "fault()", x.fault(), 4);
    }

    private static void wiping() {
        BorderGuards x = land(SMALL);
        due(3, "wipe()", x.wipe(), 68);
        due(3, "wipe() again", x.wipe(), 0);
        due(3, "count(5)", x.count(5), 0);
        due(3, "count(0): the land stays", x.count(0), 3);
        due(3, "write behind wipe", x.write(2, 0), 2);
    }

    private static void faults() {
        String p = "p0,1,2,3,4,5,6;";
        String[] good = {"", "c0;", "c300;", "v0;v999;", "o999;", "c000;", "c1;c300;c2;", p, p + p, "p000,007,099,99,020,100,99;",
            "p7,0,0,0,0,0,0;", p + p + "t0,1,20;t1,0,0;t000,001,000;", TWELVE, "o1;" + p + "v2;" + p + "c3;t1,0,1;"};
        for (String text : good) {
            due(4, "fault() of " + text, land(text).fault(), NONE);
        }
        String[] bad = {"c301;", "c;", "c", "c5", ";", "c1000;", "c0001;", "v1000;", "o1000;", "c1,2;", "c,;", "c1,;", "c,1;",
            "c 1;", "C1;", "x1;", "5;", "c-1;", "c+1;", "c1:", "c1.", "p0,1,2,3,4,5;", "p0,1,2,3,4,5,6,7;", "p0,1,2,3,4,5,6",
            "p0,1,2,3,4,5,6,", "p8,1,2,3,4,5,6;", "p0,8,2,3,4,5,6;", "p3,3,2,3,4,5,6;", "p0,1,100,3,4,5,6;",
            "p0,1,2,100,4,5,6;", "p0,1,2,3,21,5,6;", "p0,1,2,3,4,101,6;", "p0,1,2,3,4,5,100;", "p03,3,2,3,4,5,6;",
            "t0,1,1;", "p0,,2,3,4,5,6;", "\u00e7", "\u0000", "p", "t;", "c1" + (char) 0};
        for (String text : bad) {
            due(4, "fault() of " + text, faultOf(text), 0);
            due(4, "fault() of v7;" + text, faultOf("v7;" + text), 3);
        }
        String[] towers = {"t0,0,1;", "t0,2,1;", "t2,0,1;", "t0,1,21;", "t0,1;", "t0,1,1,1;", "t0,1,1", "t0,1,1;t0,1,1;t0,1,1;t0,1,1;"};
        for (String text : towers) {
            int place = text.length() > 10 ? 30 + 21 : 30;
            due(4, "fault() of two paths, " + text, faultOf(p + p + text), place);
        }
        due(4, "a tower ahead of its path", faultOf(p + "t0,1,1;" + p), 15);
        due(4, "a thirteenth path", faultOf(TWELVE + p), TWELVE.length());
        due(4, "two faults", faultOf("c1;c400;x"), 3);
        due(4, "; twice", faultOf("c1;;"), 3);
    }

    private static int faultOf(String text) {
        return Due.faultOf(text);
    }

    private static void laying() {
        BorderGuards x = land(SMALL);
        due(5, "lay()", x.lay(), 3);
        x.guard(0, 1);
        x.carrier(1, 1);
        x.tenths(0, 10);
        x.row(0, 4);
        x.keep();
        write(x, "x");
        due(5, "lay() with a fault", x.lay(), NO);
        due(5, "the guard stays", x.guard(0, 1), 1);
        due(5, "the carrier stays", x.carrier(1, 1), 1);
        due(5, "the tenths stay", x.tenths(0, 10), 10);
        due(5, "the row stays", x.row(0, 4), 4);
        due(5, "the land stays", x.count(0), 3);
        x.wipe();
        write(x, "c1;p0,7,9,0,1,100,0;c2;v3;o4;");
        due(5, "the land stays till it is laid", x.most(0, 0), 11);
        due(5, "lay()", x.lay(), 1);
        due(5, "the guard", x.guard(0, -1), -1);
        due(5, "the carrier", x.carrier(1, -1), -1);
        due(5, "the tenths", x.tenths(0, 0), 0);
        due(5, "the row", x.row(0, 0), 0);
        due(5, "most(0, 0)", x.most(0, 0), 9);
        due(5, "best(1, 0)", x.best(1, 0), 1);
        due(5, "leastPay()", x.leastPay(), 1);
        due(5, "way(-1, -1)", x.way(-1, -1), 1);
        due(5, "the coin told last", x.count(2), 2);
        due(5, "kept stay", x.count(6), 1);
        due(5, "the text stays", x.count(5), 29);
        due(5, "posts(4096, 0): the tower is gone", x.posts(4096, 0), BAD);
    }

    private static void pathsAndPosts() {
        BorderGuards x = land(SMALL);
        int[] numbers = {1, 7, 8, 5, 4, 100, 7};
        for (int what = 0; what < 7; what++) {
            due(6, "path(1, " + what + ")", x.path(1, what), numbers[what]);
        }
        int[][] wrongPaths = {{-1, 0}, {3, 0}, {12, 0}, {0, -1}, {0, 7}, {Integer.MIN_VALUE, 0}, {0, Integer.MAX_VALUE}};
        for (int[] pair : wrongPaths) {
            due(6, "path(" + pair[0] + ", " + pair[1] + ")", x.path(pair[0], pair[1]), BAD);
        }
        due(7, "posts(0, 0)", x.posts(0, 0), 0);
        due(7, "posts(7, 0)", x.posts(7, 0), 9);
        due(7, "posts(4103, 0)", x.posts(4103, 0), 15);
        due(7, "posts(4096, 1)", x.posts(4096, 1), 5);
        due(7, "posts(4098, 1)", x.posts(4098, 1), 7);
        due(7, "posts(4097, 2): no path waits twice", x.posts(4097, 2), 3);
        due(7, "posts(2, 2)", x.posts(2, 2), 7);
        for (int posts : new int[] {8, 2048, 8192, 16384, 32768, -1, Integer.MIN_VALUE}) {
            due(7, "posts(" + posts + ", 0)", x.posts(posts, 0), BAD);
            due(8, "bears(" + posts + ", 0)", x.bears(posts, 0), BAD);
            due(9, "most(" + posts + ", 0)", x.most(posts, 0), BAD);
            due(11, "judge(" + posts + ")", x.judge(posts), BAD);
            due(15, "oneMore(" + posts + ", 0)", x.oneMore(posts, 0), BAD);
            due(18, "through(" + posts + ", 9)", x.through(posts, 9), BAD);
            due(19, "gain(" + posts + ", 9)", x.gain(posts, 9), Long.MIN_VALUE + 1);
            due(20, "bestWay(" + posts + ", 0)", x.bestWay(posts, 0), BAD);
        }
        due(7, "posts(0, -1)", x.posts(0, -1), BAD);
        due(7, "posts(0, 3)", x.posts(0, 3), BAD);
        due(8, "bears(4096, 2)", x.bears(4096, 2), 2);
        due(8, "bears(4096, 1)", x.bears(4096, 1), 8);
        due(8, "bears(2, 1)", x.bears(2, 1), 0);
        due(8, "bears(0, 3)", x.bears(0, 3), BAD);
        due(8, "bears(0, -1)", x.bears(0, -1), BAD);
        BorderGuards y = land("p0,7,99,0,0,1,0;p0,7,99,0,0,0,0;p0,7,0,0,0,50,0;p0,7,99,0,0,99,0;p0,7,3,0,0,34,0;");
        int[] bears = {98, 99, 0, 0, 1};
        for (int p = 0; p < 5; p++) {
            due(8, "bears(31, " + p + ")", y.bears(31, p), bears[p]);
        }
    }

    private static void mostOfAll() {
        BorderGuards x = land("p0,1,5,0,0,0,0;p1,7,3,0,0,0,0;p1,2,0,0,0,0,0;p3,7,9,0,0,0,0;p2,0,9,0,0,0,0;");
        due(9, "most(0, 0)", x.most(0, 0), 3);
        due(9, "most(0, 1)", x.most(0, 1), 3);
        due(9, "most(0, 2): a path that bears 0 goes out too", x.most(0, 2), 6);
        due(9, "most(0, -1)", x.most(0, -1), BAD);
        due(9, "most(0, 3)", x.most(0, 3), BAD);
        // Two narrow places one behind the other: the shore ends at the first.
        BorderGuards y = land("p0,1,9,0,0,0,0;p1,2,4,0,0,50,0;p2,3,8,0,0,0,0;p3,7,4,0,0,75,0;");
        due(9, "most(0, 0)", y.most(0, 0), 4);
        due(9, "most(0, 1)", y.most(0, 1), 3);
        due(9, "most(0, 2)", y.most(0, 2), 2);
        due(9, "most(8, 0)", y.most(8, 0), 1);
        due(9, "most(8, 1)", y.most(8, 1), 15);
        due(9, "most(8, 2)", y.most(8, 2), 8);
        // Loads have to turn back on the middle path, or the way by 1, 2 would shut the others off.
        BorderGuards z = land("p0,1,1,0,0,0,0;p1,2,1,0,0,0,0;p0,2,1,0,0,0,0;p1,7,1,0,0,0,0;p2,7,1,0,0,0,0;");
        due(9, "most(0, 0)", z.most(0, 0), 2);
        due(9, "most(0, 1)", z.most(0, 1), 1);
        due(9, "most(0, 2)", z.most(0, 2), 5);
        BorderGuards cycle = land("p1,2,9,0,0,0,0;p2,1,9,0,0,0,0;p0,1,9,0,0,0,0;p7,0,9,0,0,0,0;p2,7,9,0,0,0,0;p7,1,5,0,0,0,0;");
        due(9, "most(0, 0) with rings", cycle.most(0, 0), 9);
        due(9, "most(0, 1) with rings", cycle.most(0, 1), 1);
    }

    private static void rows() {
        BorderGuards x = land("p0,1,9,0,0,50,0;p1,7,9,0,0,0,0;p0,2,9,0,0,0,0;p2,7,9,0,0,0,0;p7,1,9,0,0,0,0;");
        due(10, "row(0, 9)", x.row(0, 9), 0);
        due(10, "row(0, 4)", x.row(0, 4), 9);
        due(10, "row(11, 99): the path need not be there", x.row(11, 99), 0);
        due(11, "judge(0): a path that is not there", x.judge(0), 11);
        due(10, "row(11, 0)", x.row(11, 0), 99);
        int[][] bad = {{-1, 0}, {12, 0}, {0, -1}, {0, 100}, {Integer.MAX_VALUE, 1}};
        for (int[] pair : bad) {
            due(10, "row(" + pair[0] + ", " + pair[1] + ")", x.row(pair[0], pair[1]), BAD);
        }
        due(10, "row(0, 4): nothing changed", x.row(0, 4), 4);
        due(11, "judge(0)", x.judge(0), 101);
        x.row(2, 1);
        due(11, "judge(0): the first place", x.judge(0), 101);
        x.row(1, 4);
        due(11, "judge(0)", x.judge(0), 102);
        x.row(3, 1);
        due(11, "judge(0)", x.judge(0), 205);
        due(11, "judge(1)", x.judge(1), 205);
        x.row(0, 5);
        due(11, "judge(1): a path ahead of a place", x.judge(1), 0);
        due(11, "judge(0)", x.judge(0), 101);
        x.row(4, 1);
        x.row(1, 6);
        due(11, "judge(0): one goes round", x.judge(0), 206);
        x.row(3, 10);
        x.row(1, 10);
        due(11, "judge(0): the first path", x.judge(0), 1);
        BorderGuards y = land("p7,0,9,0,0,0,0;p0,7,9,0,0,0,0;");
        due(11, "judge(0) of the empty row", y.judge(0), 200);
        y.row(0, 3);
        y.row(1, 3);
        due(11, "judge(0): as many go", y.judge(0), 200);
        y.row(1, 2);
        due(11, "judge(0): more go", y.judge(0), 199);
    }

    private static void plans() {
        BorderGuards x = land(SMALL);
        due(12, "best(0, 0)", x.best(0, 0), 0);
        due(12, "best(0, 1)", x.best(0, 1), 11);
        due(12, "best(0, 2)", x.best(0, 2), 0);
        due(12, "best(2, 0)", x.best(2, 0), 4);
        due(12, "best(3, 0)", x.best(3, 0), 1);
        due(12, "best(4, 0)", x.best(4, 0), 2);
        due(12, "best(300, 0)", x.best(300, 0), 6);
        due(12, "best(300, 1)", x.best(300, 1), 2);
        due(12, "best(300, 2)", x.best(300, 2), 6);
        int[][] bad = {{-1, 0}, {301, 0}, {0, -1}, {0, 3}};
        for (int[] pair : bad) {
            due(12, "best(" + pair[0] + ", " + pair[1] + ")", x.best(pair[0], pair[1]), BAD);
        }
        int[] fewest = {NONE, NONE, 6, 4, 4, 4, 4, 4, 3, 3, 2, 0};
        for (int l = 0; l < 12; l++) {
            due(13, "fewest(" + l + ")", x.fewest(l), fewest[l]);
        }
        due(13, "fewest(9999)", x.fewest(9999), 0);
        due(13, "fewest(10000)", x.fewest(10000), BAD);
        due(13, "fewest(-1)", x.fewest(-1), BAD);
        due(14, "more()", x.more(), 1);
        due(14, "more() with all coin", land("p0,7,9,0,20,100,0;c300;").more(), 0);
        due(14, "more() from 19", land("p0,7,9,0,20,100,0;c19;").more(), 9);
        due(14, "more() from 20", land("p0,7,9,0,20,100,0;c20;").more(), 0);
        // Of several the least bits: path 0 does as path 1 does; the tower does as both do, for less.
        BorderGuards y = land("p0,7,9,0,2,100,5;p0,7,9,0,2,100,3;t0,1,3;c3;");
        due(12, "best(2, 0)", y.best(2, 0), 1);
        due(12, "best(3, 0)", y.best(3, 0), 4096);
        due(12, "best(4, 0)", y.best(4, 0), 3);
        due(12, "best(4, 2)", y.best(4, 2), 4);
        due(13, "fewest(0)", y.fewest(0), 3);
        due(16, "weighed(1, 0, 0)", y.weighed(1, 0, 0), 4096);
        due(16, "weighed(1, 0, 1)", y.weighed(1, 0, 1), 0);
        due(16, "weighed(1, 1, 0)", y.weighed(1, 1, 0), 4096);
        due(16, "weighed(1, 1, 1)", y.weighed(1, 1, 1), 8);
        due(16, "weighed(1, 2, 0)", y.weighed(1, 2, 0), 2);
        due(16, "weighed(1, 2, 1)", y.weighed(1, 2, 1), 15);
        due(16, "weighed(1, 3, 0): of several the least", y.weighed(1, 3, 0), 0);
        due(16, "weighed(0, 0, 0)", y.weighed(0, 0, 0), 0);
        due(16, "weighed(99, 99, 1)", y.weighed(99, 99, 1), 792);
        int[][] wrongWeights = {{-1, 0, 0}, {100, 0, 0}, {0, -1, 0}, {0, 100, 0}, {0, 0, -1}, {0, 0, 2}};
        for (int[] w : wrongWeights) {
            due(16, "weighed(" + w[0] + ", " + w[1] + ", " + w[2] + ")", x.weighed(w[0], w[1], w[2]), BAD);
        }
        BorderGuards free = land("p0,7,9,0,0,0,0;p0,7,9,0,0,100,0;");
        due(12, "best(0, 0): a post for no coin", free.best(0, 0), 2);
        due(14, "more() without coin", free.more(), 0);
    }

    private static void plansAsFirstCalls() {
        due(12, "best(6, 1) first", land(SMALL).best(6, 1), 2);
        due(13, "fewest(2) first", land(SMALL).fewest(2), 6);
        due(14, "more() first", land(SMALL).more(), 1);
        due(16, "weighed(1, 1, 1) first", land(SMALL).weighed(1, 1, 1), 10);
        due(21, "leastPay() first", land(SMALL).leastPay(), 5);
        due(14, "more() from 18", land("p0,7,9,0,20,100,0;c18;").more(), 0);
        due(14, "more() without coin", land("p0,7,9,0,1,100,0;").more(), 9);
        due(12, "best(0, 0) where a post costs 1", land("p0,7,9,0,1,100,0;").best(0, 0), 0);
        due(12, "best(0, 1) where a post costs 1", land("p0,7,9,0,1,100,0;").best(0, 1), 9);
        due(12, "best(1, 0) where a post costs 1", land("p0,7,9,0,1,100,0;").best(1, 0), 1);
    }

    /** A tower has greater bits than any posts on paths, though what it sees may be lower paths. */
    private static void towersAndPaths() {
        BorderGuards x = land("p0,7,9,50,20,60,1;p0,7,9,0,20,60,1;p0,7,9,50,1,60,1;t0,1,1;c1;");
        due(12, "best(1, 0)", x.best(1, 0), 4096);
        due(16, "weighed(1, 0, 0)", x.weighed(1, 0, 0), 4096);
        due(16, "weighed(1, 6, 0): all are alike", x.weighed(1, 6, 0), 0);
        due(21, "leastPay()", x.leastPay(), 4096);
        BorderGuards z = land("p0,7,9,0,20,50,1;p0,7,9,0,20,50,1;p0,7,10,0,1,100,2;t0,1,1;c1;");
        due(12, "best(1, 0): alike, so the least bits", z.best(1, 0), 4);
        due(12, "best(1, 1)", z.best(1, 1), 18);
        due(16, "weighed(1, 0, 0): alike, so the least bits", z.weighed(1, 0, 0), 4);
        due(16, "weighed(2, 1, 1)", z.weighed(2, 1, 1), 38);
    }

    private static void oneMores() {
        BorderGuards x = land(SMALL);
        due(15, "oneMore(0, 0)", x.oneMore(0, 0), 0);
        due(15, "oneMore(0, 1)", x.oneMore(0, 1), 1);
        due(15, "oneMore(2, 1): all are stopped", x.oneMore(2, 1), 0);
        due(15, "oneMore(1, 0): half a load", x.oneMore(1, 0), 0);
        due(15, "oneMore(0, 3)", x.oneMore(0, 3), BAD);
        due(15, "oneMore(0, -1)", x.oneMore(0, -1), BAD);
        BorderGuards y = land("p0,7,99,0,0,50,0;p0,7,98,0,0,50,0;");
        due(15, "oneMore(1, 0): 100 by half", y.oneMore(1, 0), 1);
        due(15, "oneMore(2, 1): 99 by half", y.oneMore(2, 1), 0);
        due(15, "oneMore(0, 0)", y.oneMore(0, 0), 1);
        due(15, "bears(0, 0): the land is as it was", y.bears(0, 0), 99);
    }

    private static void ways() {
        BorderGuards x = land("p2,7,1,0,0,0,0;p0,2,2,0,0,0,0;p0,1,3,0,0,0,0;p1,2,4,0,0,50,0;p2,1,5,0,0,0,0;p1,7,6,0,0,0,0;"
                + "p7,1,1,0,0,0,0;p1,0,1,0,0,0,0;");
        int[][] all = {{1, 0}, {1, 4, 5}, {2, 3, 0}, {2, 5}};
        due(17, "way(-1, -1)", x.way(-1, -1), 4);
        due(17, "way(-1, 3)", x.way(-1, 3), 4);
        for (int w = 0; w < 4; w++) {
            due(17, "way(" + w + ", -1)", x.way(w, -1), all[w].length);
            for (int i = 0; i < 8; i++) {
                due(17, "way(" + w + ", " + i + ")", x.way(w, i), i < all[w].length ? all[w][i] : NONE);
            }
        }
        due(17, "way(4, -1)", x.way(4, -1), NONE);
        due(17, "way(4, 0)", x.way(4, 0), NONE);
        due(17, "way(1000000, 0)", x.way(1000000, 0), NONE);
        due(17, "way(-2, 0)", x.way(-2, 0), BAD);
        due(17, "way(0, -2)", x.way(0, -2), BAD);
        due(17, "way(4, -2)", x.way(4, -2), BAD);
        BorderGuards chain = land("p0,1,1,0,0,0,0;p1,2,1,0,0,0,0;p2,3,1,0,0,0,0;p3,4,1,0,0,0,0;p4,5,1,0,0,0,0;p5,6,1,0,0,0,0;p6,7,1,0,0,0,0;");
        due(17, "way(0, -1) of all places", chain.way(0, -1), 7);
        due(17, "way(0, 6) of all places", chain.way(0, 6), 6);
        int[] through = {1, 2, 1, 3};
        for (int w = 0; w < 4; w++) {
            due(18, "through(0, " + w + ")", x.through(0, w), through[w]);
        }
        due(18, "through(8, 2)", x.through(8, 2), 1);
        due(18, "through(0, 4)", x.through(0, 4), NONE);
        due(18, "through(0, -1)", x.through(0, -1), BAD);
        due(18, "through(256, 4)", x.through(256, 4), BAD);
        // The most ways that twelve paths can make.
        StringBuilder layers = new StringBuilder();
        for (int p = 0; p < 12; p++) {
            int from = p / 3;
            layers.append("p").append(from).append(",").append(from == 3 ? 7 : from + 1).append(",1,1,1,1,1;");
        }
        BorderGuards y = land(layers.toString());
        due(17, "way(-1, -1) of layers", y.way(-1, -1), 81);
        due(17, "way(80, 3)", y.way(80, 3), 11);
        due(17, "way(3, 2)", y.way(3, 2), 7);
    }

    private static void gains() {
        BorderGuards x = land(SMALL);
        due(19, "gain(2, 0): all is stopped", x.gain(2, 0), -10 * PART);
        due(19, "gain(4096, 1)", x.gain(4096, 1), 15 * PART);
        due(19, "gain(0, 2)", x.gain(0, 2), Long.MIN_VALUE);
        due(19, "gain(0, -1)", x.gain(0, -1), Long.MIN_VALUE + 1);
        BorderGuards chain = land("p0,1,0,99,1,1,0;p1,2,0,99,1,1,0;p2,3,0,99,1,1,0;p3,4,0,99,1,1,0;p4,5,0,99,1,1,0;p5,6,0,99,1,1,0;"
                + "p6,7,0,99,1,1,0;v999;c7;");
        // 999 times 99 to the 7 parts.
        due(19, "gain(127, 0)", chain.gain(127, 0), 999L * 93206534790699L - 693 * PART);
        due(19, "gain(1, 0)", chain.gain(1, 0), 999L * 99 * (PART / 100) - 693 * PART);
        due(20, "bestWay(0, 0): what a path bears is not looked at", chain.bestWay(0, 0), 0);
        due(21, "leastPay()", chain.leastPay(), 127);
        due(20, "bestWay(1, 0)", x.bestWay(1, 0), 1);
        due(20, "bestWay(1, 1)", x.bestWay(1, 1), 1);
        due(20, "bestWay(5, 0): of several the first", x.bestWay(5, 0), 0);
        due(20, "bestWay(0, 2)", x.bestWay(0, 2), BAD);
        due(20, "bestWay(0, -1)", x.bestWay(0, -1), BAD);
        due(21, "leastPay()", x.leastPay(), 5);
        BorderGuards none = land("p0,1,9,0,0,0,0;p7,0,9,0,0,0,0;o5;c9;");
        due(20, "bestWay(0, 0) without a way", none.bestWay(0, 0), NONE);
        due(20, "bestWay(0, 1) without a way", none.bestWay(0, 1), NONE);
        due(20, "bestWay(0, 2) without a way", none.bestWay(0, 2), BAD);
        due(21, "leastPay() without a way", none.leastPay(), 0);
        BorderGuards even = land("p0,7,9,40,5,50,0;p0,7,9,40,0,50,0;o60;c5;");
        due(20, "bestWay(0, 1): as much as else", even.bestWay(0, 1), 0);
        due(20, "bestWay(0, 0)", even.bestWay(0, 0), 0);
        due(20, "bestWay(1, 0)", even.bestWay(1, 0), 1);
        due(21, "leastPay()", even.leastPay(), 3);
        BorderGuards above = land("p0,7,9,40,5,50,0;o59;c4;");
        due(20, "bestWay(0, 1): more than else", above.bestWay(0, 1), 1);
        due(21, "leastPay() with too little coin", above.leastPay(), 0);
        // What one has else is no floor: still less is still less.
        BorderGuards deep = land("p0,7,9,0,1,50,0;p0,7,9,0,1,90,0;t0,1,5;o999;c5;");
        due(21, "leastPay() below what one has else", deep.leastPay(), 3);
    }

    private static void lots() {
        BorderGuards x = land(SMALL);
        due(22, "guard(0, 4097)", x.guard(0, 4097), -1);
        due(22, "guard(0, 0)", x.guard(0, 0), 4097);
        due(22, "guard(0, -1)", x.guard(0, -1), 0);
        due(22, "guard(0, -1) again", x.guard(0, -1), -1);
        int[][] badGuards = {{-1, 0}, {4, 0}, {0, 8}, {0, 8192}, {0, -2}, {0, Integer.MIN_VALUE}, {4, -1}};
        for (int[] pair : badGuards) {
            due(22, "guard(" + pair[0] + ", " + pair[1] + ")", x.guard(pair[0], pair[1]), -100);
        }
        due(23, "carrier(3, 1)", x.carrier(3, 1), -1);
        due(23, "carrier(3, 0)", x.carrier(3, 0), 1);
        int[][] badCarriers = {{-1, 0}, {4, 0}, {3, 2}, {3, -2}, {4, -1}, {3, Integer.MAX_VALUE}};
        for (int[] pair : badCarriers) {
            due(23, "carrier(" + pair[0] + ", " + pair[1] + ")", x.carrier(pair[0], pair[1]), -100);
        }
        due(23, "carrier(3, -1)", x.carrier(3, -1), 0);
        due(23, "carrier(3, -1) again", x.carrier(3, -1), -1);
    }

    private static void games() {
        BorderGuards x = land(SMALL);
        due(24, "value(2)", x.value(2), BAD);
        due(24, "value(-1)", x.value(-1), BAD);
        due(24, "value(0) with none told", x.value(0), NO);
        x.guard(2, 2);
        due(24, "value(0) without a carrier", x.value(0), NO);
        due(25, "chance(0, 2, 0) without a carrier", x.chance(0, 2, 0), NO);
        due(25, "chance(0, 0, 0): not told", x.chance(0, 0, 0), BAD);
        due(25, "chance(1, 0, 0): not told", x.chance(1, 0, 0), BAD);
        x.carrier(0, 0);
        due(24, "value(0)", x.value(0), 0);
        due(24, "value(1)", x.value(1), 1);
        x.carrier(3, 1);
        x.guard(0, 4);
        // By guard 0 (post on path 2): 8 and 2; by guard 2 (post on path 1): 0 and 3.
        due(24, "value(0)", x.value(0), 8);
        due(24, "value(1)", x.value(1), 3);
        long[][] chances = {{1, 3, 2, 3}, {1, 9, 8, 9}};
        for (int part = 0; part < 2; part++) {
            due(25, "chance(0, 0, " + part + ")", x.chance(0, 0, part), chances[0][part]);
            due(25, "chance(0, 2, " + part + ")", x.chance(0, 2, part), chances[0][2 + part]);
            due(25, "chance(1, 0, " + part + ")", x.chance(1, 0, part), chances[1][part]);
            due(25, "chance(1, 3, " + part + ")", x.chance(1, 3, part), chances[1][2 + part]);
        }
        int[][] bad = {{-1, 0, 0}, {2, 0, 0}, {0, -1, 0}, {0, 4, 0}, {0, 0, -1}, {0, 0, 2}, {1, 1, 0}, {0, 1, 0}};
        for (int[] c : bad) {
            due(25, "chance(" + c[0] + ", " + c[1] + ", " + c[2] + ")", x.chance(c[0], c[1], c[2]), BAD);
        }
        // A guard twice told: the first of the two plays.
        x.guard(1, 4);
        due(25, "chance(0, 0, 0)", x.chance(0, 0, 0), 1);
        due(25, "chance(0, 1, 0): another like it", x.chance(0, 1, 0), 0);
        due(25, "chance(0, 1, 1): another like it", x.chance(0, 1, 1), 1);
    }

    /** Paths side by side, each guard stops one: carrier j brings a_j times (1 less the chance of guard j). */
    private static BorderGuards sideBySide(int... loads) {
        StringBuilder text = new StringBuilder();
        for (int load : loads) {
            text.append("p0,7,").append(load).append(",0,1,100,0;");
        }
        BorderGuards x = land(text.toString());
        for (int k = 0; k < loads.length; k++) {
            x.guard(k, 1 << k);
            x.carrier(k, k);
        }
        return x;
    }

    private static void dueGame(BorderGuards x, long[] value, long[] guards, long[] carriers) {
        for (int part = 0; part < 2; part++) {
            due(24, "value(" + part + ")", x.value(part), value[part]);
            for (int k = 0; k < guards.length / 2; k++) {
                due(25, "chance(0, " + k + ", " + part + ")", x.chance(0, k, part), guards[2 * k + part]);
                due(25, "chance(1, " + k + ", " + part + ")", x.chance(1, k, part), carriers[2 * k + part]);
            }
        }
    }

    private static void wideGames() {
        // Of all supports the least: path 1, that bears 4, may go along or not.
        dueGame(sideBySide(6, 4, 3, 12), new long[] {4, 1},
                new long[] {1, 3, 0, 1, 0, 1, 2, 3}, new long[] {2, 3, 0, 1, 0, 1, 1, 3});
        dueGame(sideBySide(12, 15, 20), new long[] {10, 1}, new long[] {1, 6, 1, 3, 1, 2}, new long[] {5, 12, 1, 3, 1, 4});
        dueGame(sideBySide(12, 12, 15, 20), new long[] {180, 17},
                new long[] {2, 17, 2, 17, 5, 17, 8, 17}, new long[] {5, 17, 5, 17, 4, 17, 3, 17});
        dueGame(sideBySide(0, 0), new long[] {0, 1}, new long[] {1, 1, 0, 1}, new long[] {1, 1, 0, 1});
        // A way that no guard sees, and two that have to be held down by chances: no such support.
        BorderGuards y = land("p0,7,2,0,1,0,0;p0,7,4,0,1,100,0;p0,7,3,0,1,100,0;");
        y.guard(0, 2);
        y.guard(1, 4);
        for (int w = 0; w < 3; w++) {
            y.carrier(w, w);
        }
        due(24, "value(0) without a support", y.value(0), NO);
        due(24, "value(1) without a support", y.value(1), NO);
        due(24, "value(2) without a support", y.value(2), BAD);
        due(25, "chance(0, 0, 0) without a support", y.chance(0, 0, 0), NO);
        due(25, "chance(0, 2, 0) without a support", y.chance(0, 2, 0), BAD);
    }

    private static void tolds() {
        BorderGuards x = land(SMALL);
        due(26, "tenths(0, 4)", x.tenths(0, 4), 0);
        due(26, "tenths(0, 10)", x.tenths(0, 10), 4);
        int[][] bad = {{-1, 0}, {4, 0}, {0, -1}, {0, 11}};
        for (int[] pair : bad) {
            due(26, "tenths(" + pair[0] + ", " + pair[1] + ")", x.tenths(pair[0], pair[1]), BAD);
        }
        due(27, "told(): the guard is not told", x.told(), NO);
        x.guard(0, 2);
        due(27, "told(): no carrier", x.told(), NO);
        x.carrier(0, 0);
        due(27, "told(): all is known", x.told(), 0);
        x.carrier(1, 1);
        x.guard(1, 4);
        x.tenths(0, 3);
        due(27, "told(): together 3", x.told(), NO);
        x.tenths(1, 8);
        due(27, "told(): together 11", x.told(), NO);
        x.tenths(1, 7);
        // By guard 0 come 0 and 3, by guard 1 8 and 2: 3*3 + 7*8 less 7*8.
        due(27, "told()", x.told(), 9);
        x.guard(3, 0);
        due(27, "told(): a guard without tenths", x.told(), 9);
        x.guard(1, -1);
        due(27, "told(): a guard with tenths is gone", x.told(), NO);
        due(26, "tenths(1, 0): they stay", x.tenths(1, 0), 7);
    }

    private static void rounds() {
        BorderGuards x = land("p0,7,9,0,1,100,0;p0,7,4,0,1,50,0;p0,7,1,0,1,100,0;");
        due(28, "nights(1, 0) without a guard", x.nights(1, 0), NO);
        int[][] bad = {{0, 0}, {9, 0}, {1, -1}, {1, 16}, {-1, -1}};
        for (int[] pair : bad) {
            due(28, "nights(" + pair[0] + ", " + pair[1] + ")", x.nights(pair[0], pair[1]), BAD);
        }
        x.guard(1, 1);
        due(28, "nights(8, 0) with one guard", x.nights(8, 0), 40);
        x.guard(0, 6);
        // By guard 1 come 5, by guard 0 11; three bits are unlike.
        due(28, "nights(1, 0)", x.nights(1, 0), 5);
        due(28, "nights(2, 2)", x.nights(2, 2), NONE);
        due(28, "nights(2, 3)", x.nights(2, 3), 16);
        due(28, "nights(3, 3)", x.nights(3, 3), 21);
        due(28, "nights(8, 15)", x.nights(8, 15), 64);
        x.guard(3, 3);
        // By guard 3 come 3: it and guard 1 are one bit apart, it and guard 0 two.
        due(28, "nights(3, 1)", x.nights(3, 1), 11);
        due(28, "nights(8, 1)", x.nights(8, 1), 32);
        x.guard(1, -1);
        due(28, "nights(3, 1)", x.nights(3, 1), NONE);
        due(28, "nights(3, 2)", x.nights(3, 2), 17);
        x.guard(2, 3);
        due(28, "nights(4, 0): two guards that are alike", x.nights(4, 0), 12);
    }

    private static void keeping() {
        BorderGuards x = land(SMALL);
        due(30, "back() with none kept", x.back(), NO);
        x.guard(0, 1);
        x.carrier(0, 1);
        x.tenths(0, 10);
        x.row(0, 7);
        due(29, "keep()", x.keep(), 1);
        due(31, "count(6)", x.count(6), 1);
        relay(x, "p0,7,9,0,1,100,3;c1;v7;o8;");
        x.guard(0, 0);
        x.row(0, 2);
        x.tenths(0, 3);
        due(14, "more()", x.more(), 0);
        due(29, "keep()", x.keep(), 2);
        due(29, "keep() of a third", x.keep(), FULL);
        due(31, "count(6)", x.count(6), 2);
        x.guard(0, 1);
        x.carrier(2, 0);
        relay(x, "");
        due(30, "back()", x.back(), 1);
        due(30, "the guard", x.guard(0, 0), 0);
        due(30, "the carrier", x.carrier(2, -1), -1);
        due(30, "best(1, 0)", x.best(1, 0), 1);
        due(30, "leastPay()", x.leastPay(), 1);
        due(30, "count(3)", x.count(3), 7);
        x.row(0, 2);
        x.tenths(0, 3);
        due(30, "back()", x.back(), 0);
        due(30, "the guard", x.guard(0, -1), 1);
        due(30, "the carrier", x.carrier(0, -1), 1);
        due(30, "posts(4096, 1)", x.posts(4096, 1), 5);
        due(30, "best(5, 0)", x.best(5, 0), 2);
        due(30, "most(0, 0)", x.most(0, 0), 11);
        due(30, "leastPay()", x.leastPay(), 5);
        due(30, "way(-1, -1)", x.way(-1, -1), 2);
        due(30, "the row is not kept", x.row(0, 0), 2);
        due(30, "the tenths are not kept", x.tenths(0, 0), 3);
        due(30, "the text is not kept", x.count(5), 0);
        due(30, "back() with none left", x.back(), NO);
        due(29, "keep() again", x.keep(), 1);
    }

    private static void counts() {
        BorderGuards x = land(SMALL + "c7;");
        int[] counts = {3, 1, 7, 50, 9, 71, 0};
        for (int what = 0; what < 7; what++) {
            due(31, "count(" + what + ")", x.count(what), counts[what]);
        }
        due(31, "count(-1)", x.count(-1), BAD);
        due(31, "count(7)", x.count(7), BAD);
        due(31, "the constants", BorderGuards.BAD * 1000 + BorderGuards.NO * 100 + BorderGuards.FULL * 10 + BorderGuards.NONE, -1234);
    }

    public static void main(String[] args) {
        newObject();
        writing();
        wiping();
        faults();
        laying();
        pathsAndPosts();
        mostOfAll();
        rows();
        plans();
        plansAsFirstCalls();
        towersAndPaths();
        oneMores();
        ways();
        gains();
        lots();
        games();
        wideGames();
        tolds();
        rounds();
        keeping();
        counts();
        Due.end();
    }
}
