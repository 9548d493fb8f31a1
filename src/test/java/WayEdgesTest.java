/** The edges of promises 17 to 21: ways, what comes through on them, and what they pay. */
public final class WayEdgesTest {
    private static final int BAD = Due.BAD, NONE = Due.NONE;
    private static final long PARTS = Due.PARTS;

    // Seven paths: by posts on the first six one hundredth of a hundredth .. comes, by one on the last nearly all of that.
    private static final String NEARLY_ALL = "p0,1,0,0,1,99,0;p1,2,0,0,1,99,0;p2,3,0,0,1,99,0;p3,4,0,0,1,99,0;p4,5,0,0,1,99,0;"
            + "p5,6,0,0,1,99,0;p6,7,0,0,1,1,0;";

    /** The paths of one way, one behind the other, each with what is told of it. */
    private static String chain(int length, String rest) {
        StringBuilder text = new StringBuilder();
        for (int i = 0; i < length; i++) {
            text.append("p").append(i).append(",").append(i == length - 1 ? 7 : i + 1).append(",").append(rest).append(";");
        }
        return text.toString();
    }

    // No twelve paths make more ways than four times three side by side.
    private static String layers() {
        StringBuilder text = new StringBuilder();
        for (int p = 0; p < 12; p++) {
            int from = p / 3;
            text.append("p").append(from).append(",").append(from == 3 ? 7 : from + 1).append(",1,1,1,1,1;");
        }
        return text.toString();
    }

    // ---- promise 17

    private static void dueWays(String text, int[]... all) {
        BorderGuards x = Due.land(text);
        for (int i : new int[] {-1, 0, 1, Due.GREATEST}) {
            Due.is("way(-1, " + i + ")", x.way(-1, i), all.length);
        }
        for (int w = 0; w < all.length; w++) {
            Due.is("way(" + w + ", -1)", x.way(w, -1), all[w].length);
            for (int i = 0; i < all[w].length; i++) {
                Due.is("way(" + w + ", " + i + ")", x.way(w, i), all[w][i]);
            }
            for (int i : new int[] {all[w].length, all[w].length + 1, 7, 8, Due.GREATEST}) {
                Due.is("way(" + w + ", " + i + ")", x.way(w, i), i < all[w].length ? all[w][i] : NONE);
            }
        }
        for (int i : new int[] {-1, 0, 1, Due.GREATEST}) {
            for (int w : new int[] {all.length, all.length + 1, 399, 400, 401, Due.GREATEST}) {
                Due.is("way(" + w + ", " + i + ")", x.way(w, i), NONE);
            }
        }
        for (int n : new int[] {Due.LEAST, -3, -2}) {
            for (int second : new int[] {-2, -1, 0, all.length, Due.GREATEST}) {
                Due.is("way(" + n + ", " + second + ")", x.way(n, second), BAD);
                Due.is("way(" + second + ", " + n + ")", x.way(second, n), BAD);
            }
        }
    }

    private static void waysInOrder() {
        Due.sentence(17, "how many (w = -1), how many PATHS the w-th has (i = -1), its i-th PATH. NONE; BAD");
        dueWays("");
        dueWays("p0,1,9,0,0,0,0;p2,7,9,0,0,0,0;p7,0,9,0,0,0,0;");
        dueWays("p0,7,0,0,0,0,0;", new int[] {0});
        dueWays(chain(7, "1,1,1,1,1"), new int[] {0, 1, 2, 3, 4, 5, 6});
        Due.sentence(17, "in order by their PATHS (the first lowest, then the second, ..)");
        dueWays("p1,7,1,0,0,0,0;p0,1,1,0,0,0,0;p0,7,1,0,0,0,0;p1,7,1,0,0,0,0;p0,1,1,0,0,0,0;",
                new int[] {1, 0}, new int[] {1, 3}, new int[] {2}, new int[] {4, 0}, new int[] {4, 3});
        dueWays("p0,1,1,0,0,0,0;p1,2,1,0,0,0,0;p2,3,1,0,0,0,0;p3,7,1,0,0,0,0;p2,7,1,0,0,0,0;p1,7,1,0,0,0,0;p0,7,1,0,0,0,0;",
                new int[] {0, 1, 2, 3}, new int[] {0, 1, 4}, new int[] {0, 5}, new int[] {6});
        Due.sentence(17, "rows of PATHS from 0 to 7, no place twice");
        // There and back between 1 and 2; back to 0; out of 7.
        dueWays("p0,1,1,0,0,0,0;p1,2,1,0,0,0,0;p2,1,1,0,0,0,0;p2,7,1,0,0,0,0;p1,7,1,0,0,0,0;p1,0,1,0,0,0,0;p0,2,1,0,0,0,0;"
                + "p7,2,1,0,0,0,0;p7,0,1,0,0,0,0;", new int[] {0, 1, 3}, new int[] {0, 4}, new int[] {6, 2, 4}, new int[] {6, 3});
    }

    private static void manyWays() {
        Due.sentence(17, "at most 400 of them are looked at, the first");
        BorderGuards x = Due.land(layers());
        Due.is("way(-1, -1)", x.way(-1, -1), 81);
        for (int w = 0; w < 81; w++) {
            int[] due = {w / 27, 3 + w / 9 % 3, 6 + w / 3 % 3, 9 + w % 3};
            for (int i = 0; i < 4; i++) {
                Due.is("way(" + w + ", " + i + ")", x.way(w, i), due[i]);
            }
        }
        Due.is("way(81, 0)", x.way(81, 0), NONE);
        Due.is("through(0, 80)", x.through(0, 80), 1);
        Due.is("through(0, 81)", x.through(0, 81), NONE);
        Due.is("gain(0, 80)", x.gain(0, 80), 96 * PARTS);
        Due.is("gain(0, 81)", x.gain(0, 81), Due.NO_GAIN);
        Due.is("carrier(0, 80)", x.carrier(0, 80), -1);
        Due.is("carrier(0, 81)", x.carrier(0, 81), Due.BAD_LOT);
    }

    // ---- promise 18

    private static void throughWays() {
        Due.sentence(18, "what its PATH bears that bears least");
        for (int least = 0; least < 7; least++) {
            StringBuilder text = new StringBuilder();
            for (int i = 0; i < 7; i++) {
                text.append("p").append(i).append(",").append(i + 1).append(",").append(i == least ? 98 : 99).append(",0,0,2,0;");
            }
            BorderGuards x = Due.land(text.toString());
            Due.is("through(0, 0): path " + least + " bears least", x.through(0, 0), 98);
            Due.is("through by a post on it", x.through(1 << least, 0), 96);
            Due.is("through by a post on another", x.through(1 << (least + 1) % 7, 0), 97);
            Due.is("through(127, 0)", x.through(127, 0), 96);
        }
        Due.is("through(0, 0) of a path that bears 0", Due.land("p0,7,0,0,0,0,0;").through(0, 0), 0);
        Due.is("through(0, 0) of a path that bears 99", Due.land("p0,7,99,0,0,0,0;").through(0, 0), 99);
        Due.sentence(18, "NONE: no such WAY; BAD");
        BorderGuards x = Due.land("p0,7,9,0,0,100,0;p0,7,8,0,0,100,0;");
        BorderGuards none = Due.land("p0,1,9,0,0,100,0;");
        for (int w : new int[] {2, 3, 81, 399, 400, 401, Due.GREATEST}) {
            Due.is("through(0, " + w + ")", x.through(0, w), NONE);
            Due.is("gain(0, " + w + ")", x.gain(0, w), Due.NO_GAIN);
            Due.is("through(4, " + w + "): of several the first", x.through(4, w), BAD);
            Due.is("gain(4, " + w + "): of several the first", x.gain(4, w), Due.BAD_GAIN);
        }
        for (int w : new int[] {Due.LEAST, -2, -1}) {
            Due.is("through(0, " + w + ")", x.through(0, w), BAD);
            Due.is("gain(0, " + w + ")", x.gain(0, w), Due.BAD_GAIN);
        }
        Due.is("through(0, 0) without a way", none.through(0, 0), NONE);
        Due.is("gain(0, 0) without a way", none.gain(0, 0), Due.NO_GAIN);
        Due.is("through(2, 0) without a way", none.through(2, 0), BAD);
        Due.is("gain(2, 0) without a way", none.gain(2, 0), Due.BAD_GAIN);
    }

    // ---- promise 19

    private static void gainsAtTheirEdges() {
        Due.sentence(19, "GAIN: WORTH times the share that comes through, less all K: in parts, 10 to the 14 each one");
        Due.is("the greatest gain", Due.land("p0,7,0,0,0,0,0;v999;").gain(0, 0), 999 * PARTS);
        Due.is("the least gain", Due.land(chain(7, "9,99,1,100,0") + "v0;").gain(127, 0), -693 * PARTS);
        Due.is("no worth, nothing to carry", Due.land("p0,7,0,0,0,0,0;v0;").gain(1, 0), 0);
        Due.is("worth as it is without v", Due.land("p0,7,0,0,0,0,0;").gain(1, 0), 100 * PARTS);
        Due.is("as much as carrying costs", Due.land("p0,7,0,50,0,50,0;").gain(1, 0), 0);
        Due.sentence(19, "for each HELD PATH of it (100 less Z) of 100; with Z as it is: exactly");
        for (int z = 0; z <= 100; z += z == 0 || z == 99 ? 1 : 49) {
            BorderGuards x = Due.land("p0,7,9,3,0," + z + ",0;p0,7,9,0,0,50,0;t0,1,0;");
            Due.is("gain(0, 0) of Z " + z, x.gain(0, 0), 97 * PARTS);
            Due.is("gain(2, 0) of Z " + z + ": another path", x.gain(2, 0), 97 * PARTS);
            Due.is("gain(1, 0) of Z " + z, x.gain(1, 0), (97 - z) * PARTS);
            Due.is("gain(4097, 0) of Z " + z + ": held once", x.gain(4097, 0), (97 - z) * PARTS);
        }
        long share = PARTS;
        BorderGuards chain = Due.land(chain(7, "0,1,0,1,0") + "v1;");
        for (int held = 0; held <= 7; held++) {
            Due.is("gain by posts on " + held + " paths", chain.gain((1 << held) - 1, 0), share - 7 * PARTS);
            share = share / 100 * 99;
        }
        // 99 to the 7: not one part more or less.
        Due.is("gain(127, 0)", chain.gain(127, 0), 93206534790699L - 7 * PARTS);
        BorderGuards one = Due.land(chain(7, "0,0,0,99,0") + "v1;");
        Due.is("gain(127, 0): just one part", one.gain(127, 0), 1);
        Due.is("gain(63, 0): a hundred parts", one.gain(63, 0), 100);
    }

    // ---- promise 20

    private static void bestWays() {
        Due.sentence(20, "that of the greatest GAIN (C is not looked at; of several the first)");
        BorderGuards x = Due.land("p0,7,99,5,0,50,0;p0,7,0,4,0,50,0;p0,7,99,4,0,50,0;p0,7,99,4,0,50,0;");
        Due.is("bestWay(0, 0): the first of three, though it bears 0", x.bestWay(0, 0), 1);
        Due.is("bestWay(2, 0)", x.bestWay(2, 0), 2);
        Due.is("bestWay(6, 0): the last", x.bestWay(6, 0), 3);
        Due.is("bestWay(14, 0)", x.bestWay(14, 0), 0);
        Due.is("bestWay(15, 0)", x.bestWay(15, 0), 1);
        BorderGuards parts = Due.land(chain(7, "0,0,0,99,0") + "p0,7,0,1,0,100,0;v1;");
        Due.is("bestWay(127, 0): one part more than none", parts.bestWay(127, 0), 0);
        Due.is("bestWay(255, 0): more than -1", parts.bestWay(255, 0), 0);
        BorderGuards near = Due.land(NEARLY_ALL + "p6,7,0,0,1,0,0;v1;");
        Due.is("gain(127, 0)", near.gain(127, 0), 99);
        Due.is("gain(127, 1)", near.gain(127, 1), 100);
        Due.is("bestWay(127, 0): 100 parts rather than 99", near.bestWay(127, 0), 1);
        Due.is("bestWay(63, 0): 100 parts each", near.bestWay(63, 0), 0);
        BorderGuards negative = Due.land("p0,7,0,99,0,0,0;p0,7,0,98,0,0,0;v0;");
        Due.is("bestWay(0, 0): all gains are below 0", negative.bestWay(0, 0), 1);
        Due.sentence(20, "BEST WAY (what = 0), 1 if it PAYS, 0 (1). NONE: no WAY; BAD");
        BorderGuards none = Due.land("p0,1,9,0,0,0,0;");
        for (int what : new int[] {Due.LEAST, -1, 2, 3, Due.GREATEST}) {
            Due.is("bestWay(0, " + what + ")", x.bestWay(0, what), BAD);
            Due.is("bestWay(0, " + what + ") without a way: of several the first", none.bestWay(0, what), BAD);
        }
        for (int what = 0; what < 2; what++) {
            Due.is("bestWay(0, " + what + ") without a way", none.bestWay(0, what), NONE);
            Due.is("bestWay(2, " + what + ") without a way: of several the first", none.bestWay(2, what), BAD);
            Due.is("bestWay(0, " + what + ") of no land", new BorderGuards().bestWay(0, what), NONE);
            Due.is("bestWay(16, " + what + ")", x.bestWay(16, what), BAD);
        }
    }

    private static void duePays(String text, int posts, int due) {
        Due.is("bestWay(" + posts + ", 1) of " + text, Due.land(text).bestWay(posts, 1), due);
    }

    private static void paysAbove() {
        Due.sentence(20, "it PAYS, if GAIN is above what one has else");
        for (int other : new int[] {0, 58, 59, 60, 61, 999}) {
            duePays("p0,7,9,40,0,0,0;o" + other + ";", 0, other < 60 ? 1 : 0);
        }
        duePays("p0,7,9,0,0,0,0;v999;o998;", 0, 1);
        duePays("p0,7,9,0,0,0,0;v999;o999;", 0, 0);
        duePays("p0,7,9,0,0,0,0;v0;", 0, 0);
        duePays("p0,7,9,1,0,0,0;v0;", 0, 0);
        duePays("p0,7,9,0,0,0,0;v1;", 0, 1);
        // Less than one load above, and less than one load below.
        duePays("p0,7,9,0,0,1,0;v101;o99;", 1, 1);
        duePays("p0,7,9,0,0,1,0;v101;o100;", 1, 0);
        duePays(chain(7, "0,0,0,99,0") + "v1;", 127, 1);
        duePays(chain(6, "0,0,0,99,0") + "p0,6,0,0,0,0,0;v1;o1;", 127, 0);
    }

    // ---- promise 21

    private static void leastPays() {
        Due.sentence(21, "POSTS of COST no more than the coin");
        for (int coin : new int[] {0, 1, 2, 3, 299, 300}) {
            BorderGuards x = Due.land("p0,7,9,0,2,50,0;c" + coin + ";");
            Due.is("leastPay() with " + coin + " coin", x.leastPay(), coin >= 2 ? 1 : 0);
        }
        Due.is("leastPay() of a post for no coin", Due.land("p0,7,9,0,0,50,0;").leastPay(), 1);
        String wide = Due.times(12, "p0,7,9,0,20,50,0;");
        Due.is("leastPay() with all coin that it takes", Due.land(wide + "c240;").leastPay(), 4095);
        Due.is("leastPay() with one coin less", Due.land(wide + "c239;").leastPay(), 0);
        Due.sentence(21, "by which the greatest GAIN is least; of several the least bits");
        Due.is("a post that stops none", Due.land("p0,7,9,0,0,0,0;c9;").leastPay(), 0);
        Due.is("posts on one of two ways bring nothing", Due.land("p0,7,9,0,1,99,0;p0,7,9,0,2,50,0;c2;").leastPay(), 0);
        Due.is("posts on both", Due.land("p0,7,9,0,1,99,0;p0,7,9,0,2,50,0;c3;").leastPay(), 3);
        Due.is("the least bits of two paths of one way", Due.land("p0,1,9,0,2,50,0;p1,7,9,0,1,50,0;c2;").leastPay(), 1);
        Due.is("the lesser share, not the least bits", Due.land("p0,1,9,0,2,50,0;p1,7,9,0,1,51,0;c2;").leastPay(), 2);
        Due.is("a tower that sees both", Due.land("p0,7,9,0,9,50,0;p0,7,9,0,9,50,0;t0,1,9;c9;").leastPay(), 4096);
        Due.is("two posts rather than a tower: the least bits", Due.land("p0,7,9,0,4,50,0;p0,7,9,0,5,50,0;t0,1,9;c9;").leastPay(), 3);
        Due.is("below what one has else, and still less", Due.land("p0,7,9,0,1,50,0;p0,7,9,0,1,60,0;o999;c2;").leastPay(), 3);
        Due.is("C is not looked at", Due.land("p0,7,0,0,1,50,0;p0,7,99,60,1,50,0;c1;").leastPay(), 1);
        // A share that differs in parts of a load alone.
        Due.is("parts of a load", Due.land(chain(7, "0,0,1,99,0") + "v1;c7;").leastPay(), 127);
        Due.is("99 parts rather than 100", Due.land(NEARLY_ALL + "v1;c7;").leastPay(), 127);
        // Held by a tower the first ways gain less than the last: then a post on the last alone holds none of them.
        Due.is("the least of the greatest", Due.land("p0,7,9,0,20,51,0;p0,7,9,0,20,51,0;p0,7,9,50,1,0,0;t0,1,1;c1;").leastPay(), 4096);
        Due.is("a post that does as a tower does", Due.land("p0,1,9,0,20,50,0;p7,0,9,0,20,50,0;p1,7,9,0,1,50,0;t0,1,1;c1;").leastPay(), 4);
        BorderGuards fewer = Due.land(Due.sideBySide("9,1,50,0", 1, 2, 3, 4, 5, 6, 7, 8, 9, 10) + "p0,7,9,0,1,50,0;c20;");
        Due.is("eleven ways", fewer.leastPay(), 2047);
        Due.relay(fewer, "p0,7,9,9,1,50,0;p0,7,9,9,1,50,0;c2;");
        Due.is("two ways, where there were eleven", fewer.leastPay(), 3);
        Due.sentence(21, "no WAY: as what one has else");
        Due.relay(fewer, "p0,1,9,0,0,50,0;");
        Due.is("no way, where there were two", fewer.leastPay(), 0);
        Due.is("no path", new BorderGuards().leastPay(), 0);
        Due.is("no way", Due.land("p0,1,9,0,1,50,0;p7,0,9,0,0,50,0;t0,1,0;o9;c9;").leastPay(), 0);
    }

    public static void main(String[] args) {
        waysInOrder();
        manyWays();
        throughWays();
        gainsAtTheirEdges();
        bestWays();
        paysAbove();
        leastPays();
        Due.end();
    }
}
