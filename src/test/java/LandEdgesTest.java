/** The edges of promises 1 to 8 and 31: the text, its items, the land, posts on it. */
public final class LandEdgesTest {
    private static final int BAD = Due.BAD, NO = Due.NO, FULL = Due.FULL, NONE = Due.NONE;
    private static final String PATH = "p0,1,2,3,4,5,6;";
    private static final String COIN_396 = Due.times(132, "c1;");

    // ---- promise 1

    private static void emptyTextIsLaid() {
        Due.sentence(1, "An empty TEXT is LAID");
        BorderGuards x = new BorderGuards();
        int[] counts = {0, 0, 0, 100, 0, 0, 0};
        for (int what = 0; what < counts.length; what++) {
            Due.is("count(" + what + ")", x.count(what), counts[what]);
        }
        Due.is("path(0, 0)", x.path(0, 0), BAD);
        Due.is("posts(0, 0)", x.posts(0, 0), 0);
        Due.is("posts(1, 0)", x.posts(1, 0), BAD);
        Due.is("posts(4096, 0)", x.posts(4096, 0), BAD);
        Due.is("bears(0, 0)", x.bears(0, 0), BAD);
        Due.is("fault()", x.fault(), NONE);
        Due.is("lay() of the empty text", x.lay(), 0);
        Due.is("keep() of the empty land", x.keep(), 1);
        Due.is("back() to the empty land", x.back(), 0);
    }

    // ---- promise 2

    private static void writeTakesOneToEight() {
        Due.sentence(2, "n bytes (1 to 8)");
        for (int n = 1; n <= 8; n++) {
            Due.is("write(" + n + ", ..)", new BorderGuards().write(n, 0), n);
        }
        BorderGuards x = Due.written("c7;");
        for (int n : new int[] {0, -1, 9, 16, -8, Due.LEAST, Due.LEAST + 1, Due.GREATEST}) {
            Due.is("write(" + n + ", ..)", x.write(n, Due.packed("c9;")), BAD);
            Due.is("count(5) behind write(" + n + ", ..)", x.count(5), 3);
        }
        Due.is("fault()", x.fault(), NONE);
        x.lay();
        Due.is("count(2): nothing came", x.count(2), 7);
    }

    private static void writeHighestFirst() {
        Due.sentence(2, "of v, the highest first, come behind THE TEXT");
        String text = "c123;v45";
        for (int n = 1; n <= 8; n++) {
            // What is above the n bytes does not come.
            long above = n == 8 ? 0 : -1L << 8 * n;
            BorderGuards x = new BorderGuards();
            x.write(n, above | Due.packed(text.substring(0, n)));
            for (int at = n; at < 8; at++) {
                x.write(1, ~0xffL | text.charAt(at));
            }
            Due.is("the text in " + n + " and one by one", x.write(1, ';'), 9);
            Due.is("fault()", x.fault(), NONE);
            x.lay();
            Due.is("count(2)", x.count(2), 123);
            Due.is("count(3)", x.count(3), 45);
        }
        BorderGuards low = new BorderGuards();
        Due.is("write(8, the least long)", low.write(8, Long.MIN_VALUE), 8);
        Due.is("write(8, -1)", low.write(8, -1), 16);
        Due.is("fault()", low.fault(), 0);
    }

    private static void writeUpTo400() {
        Due.sentence(2, "a TEXT are bytes (400 at most); FULL");
        for (int n = 1; n <= 8; n++) {
            BorderGuards fits = filled(400 - n);
            Due.is("write(" + n + ", ..) at " + (400 - n), fits.write(n, 0), 400);
            Due.is("write(" + n + ", ..) at 400", fits.write(n, 0), FULL);
            Due.is("count(5)", fits.count(5), 400);
            BorderGuards over = filled(401 - n);
            Due.is("write(" + n + ", ..) at " + (401 - n), over.write(n, 0), FULL);
            Due.is("count(5)", over.count(5), 401 - n);
        }
        BorderGuards x = Due.written(COIN_396);
        Due.is("write(5, ..) at 396", x.write(5, Due.packed("c22;v")), FULL);
        Due.is("fault(): nothing came", x.fault(), NONE);
        Due.is("write(9, ..) at 396: of several the first", x.write(9, 0), BAD);
        Due.is("write(4, ..) at 396", x.write(4, Due.packed("c33;")), 400);
        Due.is("write(0, ..) at 400: of several the first", x.write(0, 0), BAD);
        Due.is("write(9, ..) at 400: of several the first", x.write(9, 0), BAD);
        Due.is("write(1, ..) at 400", x.write(1, 'x'), FULL);
        Due.is("fault() of 400 bytes", x.fault(), NONE);
        Due.is("lay() of 400 bytes", x.lay(), 0);
        Due.is("count(2): the last item is read", x.count(2), 33);
    }

    private static BorderGuards filled(int length) {
        return Due.written(Due.times(length, "x"));
    }

    // ---- promise 3

    private static void wipeEmpties() {
        Due.sentence(3, "THE TEXT is empty: how long it was");
        for (int length : new int[] {0, 1, 8, 399, 400}) {
            BorderGuards x = filled(length);
            Due.is("wipe() of " + length, x.wipe(), length);
            Due.is("count(5)", x.count(5), 0);
            Due.is("wipe() again", x.wipe(), 0);
            Due.is("fault() of the empty text", x.fault(), NONE);
            Due.is("write behind wipe", x.write(8, 0), 8);
        }
        BorderGuards x = Due.written("c77;");
        x.wipe();
        x.write(1, 'c');
        Due.is("fault(): what was there does not shine through", x.fault(), 0);
        BorderGuards full = filled(400);
        full.wipe();
        Due.is("400 bytes behind wipe", Due.write(full, Due.times(400, "y")), 400);
    }

    // ---- promise 4

    private static void ok(String text) {
        Due.is("fault() of " + text, Due.faultOf(text), NONE);
    }

    private static void notSo(String text) {
        Due.is("fault() of " + text, Due.faultOf(text), 0);
        Due.is("fault() of v7;o8;" + text, Due.faultOf("v7;o8;" + text), 6);
    }

    private static boolean among(char sign, String signs) {
        return signs.indexOf(sign) >= 0;
    }

    private static void expect(boolean isSo, String text, int place) {
        Due.is("fault() of " + text, Due.faultOf(text), isSo ? NONE : place);
    }

    private static void everyByteInEveryPlace() {
        String two = PATH + PATH;
        for (int b = 0; b < 256; b++) {
            char sign = (char) b;
            Due.sentence(4, "ITEMS, each a letter");
            expect(among(sign, "cvo"), sign + "1;", 0);
            expect(sign == 'p', two + sign + "0,1,2,3,4,5,6;", 30);
            expect(sign == 't', two + sign + "0,1,2;", 30);
            Due.sentence(4, "numbers (one to three figures)");
            expect(among(sign, "0123456789"), "c" + sign + ";", 0);
            expect(among(sign, "0123456789"), "v12" + sign + ";", sign == ';' ? 4 : 0);
            expect(among(sign, "0123456789"), "p0,1,2,3" + sign + ",4,5,6;", 0);
            Due.sentence(4, "parted by , and ;");
            expect(sign == ',', "p0" + sign + "1,2,3,4,5,6;", 0);
            expect(sign == ';', "c1" + sign, 0);
        }
    }

    private static void figures() {
        Due.sentence(4, "numbers (one to three figures)");
        String[] pathNumbers = {"0", "1", "2", "3", "4", "5", "6"};
        for (int i = 0; i < 7; i++) {
            String was = pathNumbers[i];
            for (String zeros : new String[] {"", "0", "00"}) {
                pathNumbers[i] = zeros + was;
                ok("p" + String.join(",", pathNumbers) + ";");
            }
            for (String not : new String[] {"", "000" + was, was + " ", " " + was, "-" + was, "+" + was, was + ".0"}) {
                pathNumbers[i] = not;
                notSo("p" + String.join(",", pathNumbers) + ";");
            }
            pathNumbers[i] = was;
        }
        String two = PATH + PATH;
        String[] towerNumbers = {"0", "1", "2"};
        for (int i = 0; i < 3; i++) {
            String was = towerNumbers[i];
            towerNumbers[i] = "00" + was;
            ok(two + "t" + String.join(",", towerNumbers) + ";");
            for (String not : new String[] {"", "000" + was}) {
                towerNumbers[i] = not;
                expect(false, two + "t" + String.join(",", towerNumbers) + ";", 30);
            }
            towerNumbers[i] = was;
        }
        for (String letter : new String[] {"c", "v", "o"}) {
            for (String number : new String[] {"0", "9", "00", "99", "000", "299"}) {
                ok(letter + number + ";");
            }
            for (String number : new String[] {"", "0000", "0001", "1000", "-1", "1.", "a"}) {
                notSo(letter + number + ";");
            }
        }
    }

    private static void howManyNumbers() {
        Due.sentence(4, "pA,B,C,K,W,Z,H; tP,Q,W; cN, vN, oN");
        StringBuilder numbers = new StringBuilder();
        for (int n = 1; n <= 9; n++) {
            numbers.append(n == 1 ? "0" : "," + (n - 1));
            expect(n == 7, "p" + numbers + ";", 0);
            expect(n == 3, PATH + PATH + "t" + numbers + ";", 30);
            for (String letter : new String[] {"c", "v", "o"}) {
                expect(n == 1, letter + numbers + ";", 0);
            }
        }
        for (String letter : new String[] {"p", "t", "c", "v", "o"}) {
            notSo(letter);
            notSo(letter + ";");
            notSo(letter + ",;");
            notSo(letter + letter + "1;");
        }
        notSo("p0,1,2,3,4,5,6");
        notSo("p0,1,2,3,4,5,6,");
        notSo("p0,1,2,3,4,5,6,;");
        notSo("p0,1,2,3,4,5;6;");
        notSo("c1");
        notSo("c1,");
        notSo(";");
    }

    private static void limitsOfPaths() {
        String[] names = {"A (a place, 0 to 7)", "B (a place, 0 to 7)", "C (0 to 99)", "K (0 to 99)", "W (0 to 20)", "Z (0 to 100)",
            "H (0 to 99)"};
        int[] most = {7, 7, 99, 99, 20, 100, 99};
        for (int i = 0; i < 7; i++) {
            Due.sentence(4, names[i]);
            for (int number = 0; number <= 999; number += number < 130 ? 1 : 79) {
                int[] numbers = {3, 4, 5, 5, 5, 5, 5};
                numbers[i] = number;
                boolean unlike = numbers[0] != numbers[1];
                expect(number <= most[i] && unlike, pathItem(numbers), 0);
            }
        }
    }

    private static String pathItem(int... numbers) {
        StringBuilder text = new StringBuilder("p");
        for (int i = 0; i < numbers.length; i++) {
            text.append(i == 0 ? "" : ",").append(numbers[i]);
        }
        return text.append(";").toString();
    }

    private static void placesUnlike() {
        Due.sentence(4, "a PATH from A to B (unlike)");
        for (int a = 0; a < 8; a++) {
            for (int b = 0; b < 8; b++) {
                expect(a != b, pathItem(a, b, 0, 0, 0, 0, 0), 0);
            }
        }
        notSo("p07,7,0,0,0,0,0;");
        notSo("p0,000,0,0,0,0,0;");
    }

    private static void twelvePaths() {
        Due.sentence(4, "12 at most, 0, 1, .. as they come");
        for (int n : new int[] {0, 1, 11, 12}) {
            BorderGuards x = Due.written(Due.times(n, PATH));
            Due.is("fault() of " + n + " paths", x.fault(), NONE);
            Due.is("lay() of " + n + " paths", x.lay(), n);
        }
        expect(false, Due.times(13, PATH), 12 * PATH.length());
        expect(false, Due.times(14, PATH), 12 * PATH.length());
        expect(false, Due.times(6, PATH) + "c1;" + Due.times(7, PATH), 12 * PATH.length() + 3);
        ok(Due.times(12, PATH) + "t0,11,1;c1;");
        StringBuilder text = new StringBuilder();
        for (int p = 0; p < 12; p++) {
            text.append(pathItem(0, 7, 90 - p, 0, 0, 0, 0));
        }
        BorderGuards x = Due.land(text.toString());
        for (int p = 0; p < 12; p++) {
            Due.is("path(" + p + ", 2)", x.path(p, 2), 90 - p);
        }
    }

    private static void towers() {
        Due.sentence(4, "PATHS P and Q (told ahead, unlike)");
        for (int n : new int[] {1, 2, 3, 11, 12}) {
            String paths = Due.times(n, PATH);
            for (int p = 0; p <= 13; p++) {
                for (int q = 0; q <= 13; q++) {
                    expect(p < n && q < n && p != q, paths + "t" + p + "," + q + ",1;", paths.length());
                }
            }
        }
        notSo("t0,1,1;" + PATH + PATH);
        expect(false, PATH + "t0,1,1;" + PATH, 15);
        expect(false, PATH + PATH + "t1,01,1;", 30);
        expect(false, PATH + PATH + "t0,255,1;", 30);
        ok(PATH + PATH + "t1,0,1;" + PATH + "t2,0,1;");
        Due.sentence(4, "together for W (0 to 20)");
        for (int w = 0; w <= 999; w += w < 30 ? 1 : 57) {
            expect(w <= 20, PATH + PATH + "t0,1," + w + ";", 30);
        }
        Due.sentence(4, "TOWERS: 3 at most");
        for (int n = 0; n <= 5; n++) {
            String text = PATH + PATH + Due.times(n, "t0,1,1;");
            expect(n <= 3, text, 30 + 21);
            BorderGuards x = Due.written(text);
            Due.is("lay() of " + n + " towers", x.lay(), n <= 3 ? 2 : NO);
            Due.is("count(1)", x.count(1), n <= 3 ? n : 0);
        }
    }

    private static void coinWorthElse() {
        int[] most = {300, 999, 999};
        int[] without = {0, 100, 0};
        String[] words = {"cN coin (0 to 300; 0 without)", "vN the WORTH (0 to 999; 100)", "oN what a carrier has else (0 to 999; 0)"};
        for (int i = 0; i < 3; i++) {
            Due.sentence(4, words[i]);
            String letter = "cvo".substring(i, i + 1);
            for (int n : new int[] {0, 1, 99, 100, 255, 256, 299, 300, 301, 302, 400, 998, 999}) {
                boolean isSo = n <= most[i];
                BorderGuards x = Due.written(letter + n + ";");
                Due.is("fault() of " + letter + n + ";", x.fault(), isSo ? NONE : 0);
                Due.is("lay()", x.lay(), isSo ? 0 : NO);
                Due.is("count(" + (2 + i) + ")", x.count(2 + i), isSo ? n : without[i]);
                Due.is("lay() of the empty text", Due.relay(x, ""), 0);
                Due.is("count(" + (2 + i) + ") without", x.count(2 + i), without[i]);
            }
            notSo(letter + "1000;");
            Due.sentence(4, "Of several of c, v, o the last");
            BorderGuards x = Due.land(letter + "9;" + letter + "0;" + letter + "5;" + PATH + letter + "4;");
            Due.is("count(" + (2 + i) + ")", x.count(2 + i), 4);
        }
        notSo("c301;c5;");
    }

    private static void placeOfFault() {
        Due.sentence(4, "FAULT: the place of the first byte of the first ITEM that is not so");
        Due.is("two faults", Due.faultOf("c1;c301;x1;"), 3);
        Due.is("the last byte of an item", Due.faultOf("c1;" + "p0,1,2,3,4,5,6:"), 3);
        Due.is("the last item is not ended", Due.faultOf("c1;v2;c3"), 6);
        Due.is("a letter alone at the end", Due.faultOf("c1;c"), 3);
        Due.is("; twice", Due.faultOf("c1;;"), 3);
        Due.is("a blank behind", Due.faultOf("c1; "), 3);
        Due.is("a blank between", Due.faultOf("c1; c2;"), 3);
        Due.is("at 399", Due.faultOf(COIN_396 + "c1;x"), 399);
        Due.is("at 396", Due.faultOf(COIN_396 + "c12:"), 396);
        Due.is("at 0 of 400", Due.faultOf("x" + COIN_396 + "c1;"), 0);
        Due.is("an item that 400 bytes cut off", Due.faultOf(COIN_396 + "c123"), 396);
        Due.is("none in 400", Due.faultOf(COIN_396 + "c12;"), NONE);
        BorderGuards x = Due.written("c1;x");
        Due.is("fault()", x.fault(), 3);
        Due.is("fault() again", x.fault(), 3);
        x.wipe();
        Due.is("fault() behind wipe", x.fault(), NONE);
    }

    // ---- promise 5

    private static BorderGuards busy() {
        BorderGuards x = Due.land("p0,7,9,1,1,50,3;p0,7,8,1,1,50,3;t0,1,2;c3;v4;o5;");
        for (int k = 0; k < 4; k++) {
            x.guard(k, k);
            x.carrier(k, k % 2);
            x.tenths(k, k + 1);
        }
        for (int p = 0; p < 12; p++) {
            x.row(p, p + 1);
        }
        return x;
    }

    private static void layForgets() {
        Due.sentence(5, "LAID: how many PATHS; no GUARDS, CARRIERS, chances of TOLD 0, the ROW 0");
        BorderGuards same = busy();
        Due.is("lay() of the same text", same.lay(), 2);
        allForgotten(same);
        BorderGuards other = busy();
        Due.is("lay() of another", Due.relay(other, PATH), 1);
        allForgotten(other);
        BorderGuards empty = busy();
        Due.is("lay() of the empty text", Due.relay(empty, ""), 0);
        allForgotten(empty);
        int[] counts = {0, 0, 0, 100, 0, 0, 0};
        for (int what = 0; what < 7; what++) {
            Due.is("count(" + what + ") of the empty land", empty.count(what), counts[what]);
        }
    }

    private static void allForgotten(BorderGuards x) {
        Due.is("value(0)", x.value(0), NO);
        Due.is("told()", x.told(), NO);
        Due.is("nights(1, 0)", x.nights(1, 0), NO);
        Due.is("judge(0)", x.judge(0), 200);
        for (int k = 0; k < 4; k++) {
            Due.is("guard(" + k + ", -1)", x.guard(k, -1), -1);
            Due.is("carrier(" + k + ", -1)", x.carrier(k, -1), -1);
            Due.is("tenths(" + k + ", 0)", x.tenths(k, 0), 0);
        }
        for (int p = 0; p < 12; p++) {
            Due.is("row(" + p + ", 0)", x.row(p, 0), 0);
        }
    }

    private static void layRefused() {
        Due.sentence(5, "NO: a FAULT");
        for (String bad : new String[] {"x", PATH + "c301;", PATH + "c2", Due.times(13, PATH), "t0,1,1;"}) {
            BorderGuards x = busy();
            x.wipe();
            Due.write(x, bad);
            Due.is("lay() of " + bad, x.lay(), NO);
            int[] counts = {2, 1, 3, 4, 5, bad.length(), 0};
            for (int what = 0; what < 7; what++) {
                Due.is("count(" + what + ")", x.count(what), counts[what]);
            }
            Due.is("path(1, 2)", x.path(1, 2), 8);
            Due.is("posts(4096, 1)", x.posts(4096, 1), 3);
            Due.is("most(0, 0)", x.most(0, 0), 17);
            Due.is("way(-1, -1)", x.way(-1, -1), 2);
            for (int k = 0; k < 4; k++) {
                Due.is("guard(" + k + ", -1)", x.guard(k, -1), k);
                Due.is("carrier(" + k + ", -1)", x.carrier(k, -1), k % 2);
                Due.is("tenths(" + k + ", 0)", x.tenths(k, 0), k + 1);
            }
            for (int p = 0; p < 12; p++) {
                Due.is("row(" + p + ", 0)", x.row(p, 0), p + 1);
            }
        }
        BorderGuards x = busy();
        x.write(1, 'x');
        Due.is("lay() with one byte too many", x.lay(), NO);
        x.wipe();
        Due.is("lay() behind wipe", x.lay(), 0);
    }

    // ---- promise 6

    private static void pathNumbers() {
        Due.sentence(6, "A, B, C, K, W, Z, H (what 0 to 6). BAD");
        int[] least = {1, 0, 0, 0, 0, 0, 0};
        int[] greatest = {6, 7, 99, 99, 20, 100, 99};
        for (int paths : new int[] {0, 1, 2, 12}) {
            StringBuilder text = new StringBuilder();
            for (int p = 0; p < paths; p++) {
                text.append(pathItem(p % 2 == 0 ? least : greatest));
            }
            BorderGuards x = Due.land(text.toString());
            for (int p : new int[] {Due.LEAST, -12, -1, 0, 1, 2, 3, 10, 11, 12, 13, 32, 64, Due.GREATEST}) {
                boolean there = p >= 0 && p < paths;
                for (int what = 0; what < 7; what++) {
                    int number = p % 2 == 0 ? least[what] : greatest[what];
                    Due.is("path(" + p + ", " + what + ") of " + paths, x.path(p, what), there ? number : BAD);
                }
                for (int what : new int[] {Due.LEAST, -1, 7, 8, Due.GREATEST}) {
                    Due.is("path(" + p + ", " + what + ") of " + paths, x.path(p, what), BAD);
                }
            }
        }
    }

    // ---- promise 7

    private static String landOf(int paths, int towers) {
        StringBuilder text = new StringBuilder();
        for (int p = 0; p < paths; p++) {
            text.append(pathItem(0, 7, 99, 0, 20, 100, 99));
        }
        for (int t = 0; t < towers; t++) {
            text.append("t").append(t).append(",").append(paths - 1).append(",20;");
        }
        return text.toString();
    }

    private static boolean isBit(int bit, int paths, int towers) {
        return bit < paths || bit >= 12 && bit < 12 + towers;
    }

    /** All calls that are told posts refuse the same ones. */
    private static void duePosts(BorderGuards x, int posts, boolean isSo) {
        dueSo("posts(" + posts + ", 0)", x.posts(posts, 0) != BAD, isSo);
        dueSo("posts(" + posts + ", 1)", x.posts(posts, 1) != BAD, isSo);
        dueSo("bears(" + posts + ", 0)", x.bears(posts, 0) != BAD, isSo);
        dueSo("most(" + posts + ", 0)", x.most(posts, 0) != BAD, isSo);
        dueSo("judge(" + posts + ")", x.judge(posts) != BAD, isSo);
        dueSo("oneMore(" + posts + ", 0)", x.oneMore(posts, 0) != BAD, isSo);
        dueSo("through(" + posts + ", 0)", x.through(posts, 0) != BAD, isSo);
        dueSo("gain(" + posts + ", 0)", x.gain(posts, 0) != Due.BAD_GAIN, isSo);
        dueSo("bestWay(" + posts + ", 0)", x.bestWay(posts, 0) != BAD, isSo);
        dueSo("guard(0, " + posts + ")", x.guard(0, posts) != Due.BAD_LOT, isSo);
    }

    private static void dueSo(String call, boolean got, boolean want) {
        Due.is(call + " is taken (1) or BAD (0):", got ? 1 : 0, want ? 1 : 0);
    }

    private static void postsThatAreThere() {
        Due.sentence(7, "bits 0 to 11 of PATHS, 12 to 14 of TOWERS (of such as there are); BAD: POSTS that are not there, too");
        for (int paths : new int[] {4, 11, 12}) {
            for (int towers = 0; towers <= 3; towers++) {
                String text = landOf(paths, towers);
                int all = (1 << paths) - 1 | (1 << towers) - 1 << 12;
                for (int bit = 0; bit < 32; bit++) {
                    boolean there = isBit(bit, paths, towers);
                    BorderGuards x = Due.land(text);
                    duePosts(x, 1 << bit, there);
                    duePosts(x, all | 1 << bit, there);
                }
                BorderGuards x = Due.land(text);
                duePosts(x, 0, true);
                duePosts(x, all, true);
                duePosts(x, -2, false);
                duePosts(x, Due.GREATEST, false);
                Due.is("posts(-1, 0)", x.posts(-1, 0), BAD);
                Due.is("most(-1, 0)", x.most(-1, 0), BAD);
                Due.is("gain(-1, 0)", x.gain(-1, 0), Due.BAD_GAIN);
            }
        }
        BorderGuards none = new BorderGuards();
        for (int bit = 0; bit < 32; bit++) {
            Due.is("posts(1 << " + bit + ", 0) of no paths", none.posts(1 << bit, 0), BAD);
            Due.is("judge(1 << " + bit + ") of no paths", none.judge(1 << bit), BAD);
            Due.is("guard(0, 1 << " + bit + ") of no paths", none.guard(0, 1 << bit), Due.BAD_LOT);
        }
    }

    private static void ofPosts() {
        Due.sentence(7, "COST (what = 0), HELD PATHS as bits (1), WAITS (2). BAD");
        BorderGuards x = Due.land(landOf(12, 3));
        for (int what : new int[] {Due.LEAST, -1, 3, 4, Due.GREATEST}) {
            Due.is("posts(0, " + what + ")", x.posts(0, what), BAD);
            Due.is("posts(32768, " + what + ")", x.posts(32768, what), BAD);
        }
        int[][] due = {{0, 0, 0, 0}, {1, 20, 1, 99}, {2048, 20, 2048, 99}, {4095, 240, 4095, 1188}, {4096, 20, 2049, 198},
            {16384, 20, 2052, 198}, {28672, 60, 2055, 396}, {32767, 300, 4095, 1188}};
        for (int[] row : due) {
            for (int what = 0; what < 3; what++) {
                Due.is("posts(" + row[0] + ", " + what + ")", x.posts(row[0], what), row[1 + what]);
            }
        }
        Due.sentence(7, "HELD, if there is a POST on it or a TOWER of the set sees it; COST: W of each; WAITS: H of all HELD PATHS");
        BorderGuards y = Due.land("p0,7,9,0,1,50,10;p0,7,9,0,2,50,20;p0,7,9,0,4,50,40;t0,1,8;t1,0,16;");
        Due.is("posts(4097, 0): a post and a tower on one path", y.posts(4097, 0), 9);
        Due.is("posts(4097, 1)", y.posts(4097, 1), 3);
        Due.is("posts(4097, 2)", y.posts(4097, 2), 30);
        Due.is("posts(12288, 0): two towers see the same", y.posts(12288, 0), 24);
        Due.is("posts(12288, 1)", y.posts(12288, 1), 3);
        Due.is("posts(12288, 2)", y.posts(12288, 2), 30);
        Due.is("bears(12291, 0): held once", y.bears(12291, 0), 4);
    }

    // ---- promise 8

    private static void bearsCut() {
        Due.sentence(8, "it bears C times (100 less Z) by 100, cut");
        int[][] due = {{99, 0, 99}, {99, 1, 98}, {99, 2, 97}, {99, 98, 1}, {99, 99, 0}, {99, 100, 0}, {0, 0, 0}, {0, 50, 0}, {0, 100, 0},
            {1, 0, 1}, {1, 1, 0}, {1, 100, 0}, {50, 50, 25}, {50, 51, 24}, {50, 49, 25}, {51, 50, 25}, {2, 50, 1}, {3, 34, 1}, {3, 33, 2},
            {3, 67, 0}, {3, 66, 1}, {20, 95, 1}, {20, 96, 0}, {25, 4, 24}, {25, 3, 24}, {25, 5, 23}};
        for (int[] row : due) {
            BorderGuards x = Due.land(pathItem(0, 7, 1, 0, 0, 0, 0) + pathItem(0, 7, row[0], 0, 0, row[1], 0) + "t0,1,0;");
            String what = " of C " + row[0] + ", Z " + row[1];
            Due.is("bears(0, 1)" + what, x.bears(0, 1), row[0]);
            Due.is("bears(1, 1)" + what, x.bears(1, 1), row[0]);
            Due.is("bears(2, 1)" + what, x.bears(2, 1), row[2]);
            Due.is("bears(4096, 1)" + what, x.bears(4096, 1), row[2]);
        }
        Due.sentence(8, "What a PATH bears by POSTS. BAD");
        for (int paths : new int[] {0, 1, 12}) {
            BorderGuards x = Due.land(landOf(paths, 0));
            for (int p : new int[] {Due.LEAST, -1, 0, 1, 11, 12, 13, 31, 32, Due.GREATEST}) {
                Due.is("bears(0, " + p + ") of " + paths, x.bears(0, p), p >= 0 && p < paths ? 99 : BAD);
            }
        }
    }

    // ---- promise 31

    private static void countsAtTheirEdges() {
        Due.sentence(31, "0 PATHS, .. 6 KEPT. BAD");
        BorderGuards x = new BorderGuards();
        for (int what : new int[] {Due.LEAST, -2, -1, 7, 8, 100, Due.GREATEST}) {
            Due.is("count(" + what + ")", x.count(what), BAD);
        }
        String full = landOf(12, 3) + "c300;v999;o999;";
        Due.write(x, full + Due.times((400 - full.length()) / 5, "c300;"));
        Due.write(x, Due.times(400 - x.count(5), "x"));
        Due.is("count(5)", x.count(5), 400);
        x.wipe();
        Due.write(x, full);
        x.lay();
        x.keep();
        Due.is("count(6) of one", x.count(6), 1);
        x.keep();
        int[] greatest = {12, 3, 300, 999, 999, full.length(), 2};
        for (int what = 0; what < 7; what++) {
            Due.is("count(" + what + ")", x.count(what), greatest[what]);
        }
        Due.relay(x, "c0;v0;o0;");
        int[] least = {0, 0, 0, 0, 0, 9, 2};
        for (int what = 0; what < 7; what++) {
            Due.is("count(" + what + ")", x.count(what), least[what]);
        }
    }

    public static void main(String[] args) {
        emptyTextIsLaid();
        writeTakesOneToEight();
        writeHighestFirst();
        writeUpTo400();
        wipeEmpties();
        everyByteInEveryPlace();
        figures();
        howManyNumbers();
        limitsOfPaths();
        placesUnlike();
        twelvePaths();
        towers();
        coinWorthElse();
        placeOfFault();
        layForgets();
        layRefused();
        pathNumbers();
        postsThatAreThere();
        ofPosts();
        bearsCut();
        countsAtTheirEdges();
        Due.end();
    }
}
