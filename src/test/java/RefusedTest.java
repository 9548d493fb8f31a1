import java.util.ArrayList;
import java.util.List;
import java.util.function.Supplier;

/**
 * "Of several the first; nothing changes then": each call that is refused is made on an object in which
 * everything is told, and then all that can be asked of the object is asked and is as without that call.
 * The same with calls that only ask.
 */
public final class RefusedTest {
    private interface Call {
        long on(BorderGuards x);
    }

    private record Named(String name, Call call, long due) {
    }

    private static final int BAD = Due.BAD, NO = Due.NO, FULL = Due.FULL, NONE = Due.NONE, BAD_LOT = Due.BAD_LOT;
    private static final String FIRST = "p0,7,8,1,1,50,3;p0,7,6,2,2,50,4;t0,1,2;c3;v40;o5;";
    private static final String SECOND = "p0,1,9,1,2,50,1;p1,7,8,2,3,40,2;p0,7,7,3,1,30,3;t0,2,2;c4;v50;o6;";
    private static final String THIRD = "p0,1,5,1,2,40,1;p1,7,6,2,3,50,2;p0,7,7,3,1,60,3;p0,2,8,3,1,70,4;p2,7,9,2,2,80,5;"
            + "t0,2,2;t3,4,3;c5;v60;o7;";
    private static final int PATHS = 5;

    // ---- objects in which everything is told

    private static void tellLots(BorderGuards x, int from) {
        for (int k = 0; k < 4; k++) {
            x.guard(k, from + k);
            x.carrier(k, k % 2);
        }
    }

    private static BorderGuards told() {
        BorderGuards x = Due.land(FIRST);
        tellLots(x, 0);
        x.keep();
        Due.relay(x, SECOND);
        tellLots(x, 2);
        x.keep();
        Due.relay(x, THIRD);
        tellLots(x, 4);
        for (int k = 0; k < 4; k++) {
            x.tenths(k, k + 1);
        }
        for (int p = 0; p < 12; p++) {
            x.row(p, p + 2);
        }
        x.wipe();
        Due.write(x, "c7;p0,7,8,9,10,11,12;v");
        return x;
    }

    /** As above with a text that is full and has no fault. */
    private static BorderGuards full() {
        BorderGuards x = told();
        x.wipe();
        Due.is("the text", Due.write(x, "p0,7,8,9,10,11,12;" + Due.times(126, "c7;") + "v99;"), 400);
        return x;
    }

    /** One land is kept, and one guard and one carrier are told. */
    private static BorderGuards sparse() {
        BorderGuards x = told();
        x.back();
        for (int k = 0; k < 3; k++) {
            x.guard(k, -1);
            x.carrier(k + 1, -1);
            x.tenths(k, 0);
        }
        return x;
    }

    // ---- all that can be asked

    private static String all(BorderGuards x) {
        StringBuilder text = new StringBuilder();
        askLand(x, text);
        askLots(x, text);
        text.append("\n    row and tenths");
        for (int p = 0; p < 12; p++) {
            text.append(" ").append(x.row(p, 0));
        }
        for (int k = 0; k < 4; k++) {
            text.append(" ").append(x.tenths(k, 0));
        }
        for (int left = x.count(6); left > 0; left--) {
            text.append("\n    back ").append(x.back());
            askLand(x, text);
            askLots(x, text);
        }
        // The bytes of the text are seen by what they lay, with an end put to the last item.
        text.append("\n    text ").append(x.count(5)).append(" ").append(x.fault());
        text.append(" ").append(x.write(2, Due.packed("9;"))).append(" ").append(x.lay());
        askLand(x, text);
        return text.toString();
    }

    private static void askLand(BorderGuards x, StringBuilder text) {
        text.append("\n    land");
        for (int what = 0; what < 7; what++) {
            text.append(" ").append(x.count(what));
        }
        for (int p = 0; p < PATHS && p < x.count(0); p++) {
            for (int what = 0; what < 7; what++) {
                text.append(what == 0 ? " p" : ",").append(x.path(p, what));
            }
        }
        text.append(" tower ").append(x.posts(4096, 1)).append(" ").append(x.posts(12288, 0));
        text.append(" most ").append(x.most(1, 0)).append(" ").append(x.most(1, 1)).append(" ").append(x.most(1, 2));
        text.append(" best ").append(x.best(3, 0)).append(" ").append(x.fewest(7)).append(" ").append(x.more());
        text.append(" weighed ").append(x.weighed(3, 2, 0)).append(" ").append(x.weighed(3, 2, 1));
        text.append(" judge ").append(x.judge(0));
        text.append(" ways ").append(x.way(-1, -1)).append(" ").append(x.gain(1, 0)).append(" ").append(x.bestWay(1, 0));
        text.append(" least ").append(x.leastPay());
    }

    private static void askLots(BorderGuards x, StringBuilder text) {
        text.append(" value ").append(x.value(0)).append(" ").append(x.value(1));
        text.append(" told ").append(x.told()).append(" nights ").append(x.nights(5, 2)).append(" lots");
        for (int k = 0; k < 4; k++) {
            text.append(" ").append(x.chance(0, k, 0)).append(" ").append(x.chance(1, k, 0));
        }
        for (int k = 0; k < 4; k++) {
            text.append(" ").append(x.guard(k, -1)).append(" ").append(x.carrier(k, -1));
        }
    }

    // ---- the calls

    private static void add(List<Named> calls, String name, long due, Call call) {
        calls.add(new Named(name, call, due));
    }

    private static List<Named> refusedLand(List<Named> calls) {
        for (int n : new int[] {Due.LEAST, -1, 0, 9, Due.GREATEST}) {
            add(calls, "write(" + n + ", ..)", BAD, x -> x.write(n, Due.packed("c9;c9;c9")));
        }
        for (int p : new int[] {Due.LEAST, -1, PATHS, 12, Due.GREATEST}) {
            add(calls, "path(" + p + ", 0)", BAD, x -> x.path(p, 0));
            add(calls, "bears(0, " + p + ")", BAD, x -> x.bears(0, p));
            add(calls, "oneMore(0, " + p + ")", BAD, x -> x.oneMore(0, p));
        }
        for (int what : new int[] {Due.LEAST, -1, 7, Due.GREATEST}) {
            add(calls, "path(0, " + what + ")", BAD, x -> x.path(0, what));
            add(calls, "posts(0, " + what + ")", BAD, x -> x.posts(0, what));
            add(calls, "most(0, " + what + ")", BAD, x -> x.most(0, what));
            add(calls, "best(0, " + what + ")", BAD, x -> x.best(0, what));
            add(calls, "weighed(1, 1, " + what + ")", BAD, x -> x.weighed(1, 1, what));
            add(calls, "bestWay(0, " + what + ")", BAD, x -> x.bestWay(0, what));
            add(calls, "value(" + what + ")", BAD, x -> x.value(what));
            add(calls, "chance(0, 3, " + what + ")", BAD, x -> x.chance(0, 3, what));
            add(calls, "count(" + what + ")", BAD, x -> x.count(what));
        }
        for (int posts : new int[] {Due.LEAST, -2, 32, 16384, 32768, Due.GREATEST}) {
            add(calls, "posts(" + posts + ", 0)", BAD, x -> x.posts(posts, 0));
            add(calls, "bears(" + posts + ", 0)", BAD, x -> x.bears(posts, 0));
            add(calls, "most(" + posts + ", 1)", BAD, x -> x.most(posts, 1));
            add(calls, "judge(" + posts + ")", BAD, x -> x.judge(posts));
            add(calls, "oneMore(" + posts + ", 0)", BAD, x -> x.oneMore(posts, 0));
            add(calls, "through(" + posts + ", 0)", BAD, x -> x.through(posts, 0));
            add(calls, "gain(" + posts + ", 0)", Due.BAD_GAIN, x -> x.gain(posts, 0));
            add(calls, "bestWay(" + posts + ", 0)", BAD, x -> x.bestWay(posts, 0));
            add(calls, "guard(1, " + posts + ")", BAD_LOT, x -> x.guard(1, posts));
        }
        return calls;
    }

    private static List<Named> refusedNumbers(List<Named> calls) {
        for (int n : new int[] {Due.LEAST, -1, 12, Due.GREATEST}) {
            add(calls, "row(" + n + ", 1)", BAD, x -> x.row(n, 1));
        }
        for (int n : new int[] {Due.LEAST, -1, 100, Due.GREATEST}) {
            add(calls, "row(2, " + n + ")", BAD, x -> x.row(2, n));
            add(calls, "weighed(" + n + ", 1, 0)", BAD, x -> x.weighed(n, 1, 0));
            add(calls, "weighed(1, " + n + ", 0)", BAD, x -> x.weighed(1, n, 0));
        }
        for (int n : new int[] {Due.LEAST, -1, 301, Due.GREATEST}) {
            add(calls, "best(" + n + ", 0)", BAD, x -> x.best(n, 0));
        }
        for (int n : new int[] {Due.LEAST, -1, 10000, Due.GREATEST}) {
            add(calls, "fewest(" + n + ")", BAD, x -> x.fewest(n));
        }
        for (int n : new int[] {Due.LEAST, -2}) {
            add(calls, "way(" + n + ", 0)", BAD, x -> x.way(n, 0));
            add(calls, "way(0, " + n + ")", BAD, x -> x.way(0, n));
            add(calls, "through(0, " + n + ")", BAD, x -> x.through(0, n));
            add(calls, "gain(0, " + n + ")", Due.BAD_GAIN, x -> x.gain(0, n));
            add(calls, "carrier(1, " + n + ")", BAD_LOT, x -> x.carrier(1, n));
        }
        for (int n : new int[] {5, 400, Due.GREATEST}) {
            add(calls, "way(" + n + ", 0)", NONE, x -> x.way(n, 0));
            add(calls, "way(0, " + n + ")", NONE, x -> x.way(0, n));
            add(calls, "through(0, " + n + ")", NONE, x -> x.through(0, n));
            add(calls, "gain(0, " + n + ")", Due.NO_GAIN, x -> x.gain(0, n));
            add(calls, "carrier(1, " + n + ")", BAD_LOT, x -> x.carrier(1, n));
        }
        for (int n : new int[] {Due.LEAST, -1, 4, Due.GREATEST}) {
            add(calls, "guard(" + n + ", 1)", BAD_LOT, x -> x.guard(n, 1));
            add(calls, "guard(" + n + ", -1)", BAD_LOT, x -> x.guard(n, -1));
            add(calls, "carrier(" + n + ", 1)", BAD_LOT, x -> x.carrier(n, 1));
            add(calls, "carrier(" + n + ", -1)", BAD_LOT, x -> x.carrier(n, -1));
            add(calls, "tenths(" + n + ", 1)", BAD, x -> x.tenths(n, 1));
            add(calls, "chance(1, " + n + ", 0)", BAD, x -> x.chance(1, n, 0));
            add(calls, "chance(" + n + ", 0, 0)", BAD, x -> x.chance(n, 0, 0));
        }
        for (int n : new int[] {Due.LEAST, -1, 11, Due.GREATEST}) {
            add(calls, "tenths(1, " + n + ")", BAD, x -> x.tenths(1, n));
        }
        for (int n : new int[] {Due.LEAST, -1, 0, 9, Due.GREATEST}) {
            add(calls, "nights(" + n + ", 3)", BAD, x -> x.nights(n, 3));
        }
        for (int n : new int[] {Due.LEAST, -1, 16, Due.GREATEST}) {
            add(calls, "nights(3, " + n + ")", BAD, x -> x.nights(3, n));
        }
        return calls;
    }

    private static List<Named> refusedByAll() {
        return refusedNumbers(refusedLand(new ArrayList<>()));
    }

    private static List<Named> asking() {
        List<Named> calls = new ArrayList<>();
        add(calls, "path(4, 6)", 5, x -> x.path(4, 6));
        add(calls, "posts(4097, 0)", 4, x -> x.posts(4097, 0));
        add(calls, "posts(8192, 1)", 24, x -> x.posts(8192, 1));
        add(calls, "posts(31, 2)", 15, x -> x.posts(31, 2));
        add(calls, "bears(1, 0)", 3, x -> x.bears(1, 0));
        add(calls, "most(0, 0)", 20, x -> x.most(0, 0));
        add(calls, "most(31, 1)", 5, x -> x.most(31, 1));
        add(calls, "most(8, 2)", 13, x -> x.most(8, 2));
        add(calls, "judge(0)", 5, x -> x.judge(0));
        add(calls, "best(300, 0)", 21, x -> x.best(300, 0));
        add(calls, "best(0, 1)", 20, x -> x.best(0, 1));
        add(calls, "best(1, 2)", 1, x -> x.best(1, 2));
        add(calls, "fewest(0)", NONE, x -> x.fewest(0));
        add(calls, "fewest(9999)", 0, x -> x.fewest(9999));
        add(calls, "more()", 0, x -> x.more());
        add(calls, "oneMore(0, 2)", 1, x -> x.oneMore(0, 2));
        add(calls, "oneMore(31, 4)", 1, x -> x.oneMore(31, 4));
        add(calls, "weighed(99, 99, 0)", 13, x -> x.weighed(99, 99, 0));
        add(calls, "weighed(0, 0, 1)", 0, x -> x.weighed(0, 0, 1));
        add(calls, "way(-1, -1)", 3, x -> x.way(-1, -1));
        add(calls, "way(2, 1)", 4, x -> x.way(2, 1));
        add(calls, "through(16, 2)", 1, x -> x.through(16, 2));
        add(calls, "gain(4, 1)", 21 * Due.PARTS, x -> x.gain(4, 1));
        add(calls, "bestWay(4, 0)", 0, x -> x.bestWay(4, 0));
        add(calls, "bestWay(31, 1)", 1, x -> x.bestWay(31, 1));
        add(calls, "leastPay()", 14, x -> x.leastPay());
        add(calls, "nights(8, 15)", 104, x -> x.nights(8, 15));
        add(calls, "nights(8, 0)", NONE, x -> x.nights(8, 0));
        for (int what = 0; what < 7; what++) {
            int asked = what;
            add(calls, "count(" + what + ")", new int[] {5, 2, 5, 60, 7, 22, 2}[what], x -> x.count(asked));
        }
        return calls;
    }

    private static void dueUnchanged(String state, Supplier<BorderGuards> made, List<Named> calls) {
        String before = all(made.get());
        for (Named named : calls) {
            Due.sentence(0, "nothing changes then, " + state);
            BorderGuards x = made.get();
            Due.is(named.name(), named.call().on(x), named.due());
            Due.same(named.name(), all(x), before);
        }
        Due.sentence(0, "nothing changes then, " + state);
        BorderGuards x = made.get();
        for (Named named : calls.subList(0, Math.min(60, calls.size()))) {
            named.call().on(x);
        }
        Due.same("some of them one behind the other", all(x), before);
    }

    private static List<Named> one(String name, long due, Call call) {
        List<Named> calls = new ArrayList<>();
        add(calls, name, due, call);
        return calls;
    }

    private static void refusedAsThingsStand() {
        dueUnchanged("with two kept", RefusedTest::told, one("keep()", FULL, x -> x.keep()));
        dueUnchanged("with a fault", RefusedTest::told, one("lay()", NO, x -> x.lay()));
        dueUnchanged("with a fault", RefusedTest::told, one("fault()", 21, x -> x.fault()));
        dueUnchanged("with a full text", RefusedTest::full, one("write(1, ..)", FULL, x -> x.write(1, '0')));
        dueUnchanged("with a full text", RefusedTest::full, one("write(8, ..)", FULL, x -> x.write(8, 0)));
        dueUnchanged("with a full text", RefusedTest::full, one("write(9, ..)", BAD, x -> x.write(9, 0)));
        dueUnchanged("with a full text", RefusedTest::full, one("fault()", NONE, x -> x.fault()));
        dueUnchanged("with few told", RefusedTest::sparse, one("told()", NO, x -> x.told()));
        dueUnchanged("with few told", RefusedTest::sparse, one("chance(0, 0, 0)", BAD, x -> x.chance(0, 0, 0)));
        dueUnchanged("with few told", RefusedTest::sparse, one("chance(1, 1, 0)", BAD, x -> x.chance(1, 1, 0)));
        dueUnchanged("with nothing told", BorderGuards::new, one("back()", NO, x -> x.back()));
        dueUnchanged("with nothing told", BorderGuards::new, one("value(0)", NO, x -> x.value(0)));
        dueUnchanged("with nothing told", BorderGuards::new, one("told()", NO, x -> x.told()));
        dueUnchanged("with nothing told", BorderGuards::new, one("nights(1, 0)", NO, x -> x.nights(1, 0)));
        dueUnchanged("with nothing told", BorderGuards::new, one("bestWay(0, 0)", NONE, x -> x.bestWay(0, 0)));
        dueUnchanged("with nothing told", BorderGuards::new, one("wipe()", 0, x -> x.wipe()));
        dueUnchanged("with nothing told", BorderGuards::new, one("lay()", 0, x -> x.lay()));
    }

    public static void main(String[] args) {
        dueUnchanged("with everything told", RefusedTest::told, refusedByAll());
        dueUnchanged("with everything told", RefusedTest::told, asking());
        refusedAsThingsStand();
        Due.end();
    }
}
