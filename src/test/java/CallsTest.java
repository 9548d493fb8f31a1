import java.util.ArrayList;
import java.util.List;

/** "An object is used for at most 512 calls after it has been made": the last of them is answered as the first. */
public final class CallsTest {
    private static final int CALLS = 512;

    private interface Call {
        long on(BorderGuards x);
    }

    private static String wideLand() {
        StringBuilder text = new StringBuilder();
        for (int p = 0; p < 12; p++) {
            int from = p / 3;
            text.append("p").append(from).append(",").append(from == 3 ? 7 : from + 1).append(",").append(20 + p)
                    .append(",3,").append(p % 5).append(",").append(7 * p + 1).append(",").append(p).append(";");
        }
        return text.append("t0,3,2;t1,7,3;t8,11,4;c20;v300;o7;").toString();
    }

    /** Tells the land and the lots anew: all calls that change something. */
    private static List<Call> telling(String text) {
        List<Call> calls = new ArrayList<>();
        calls.add(x -> x.wipe());
        for (int at = 0; at < text.length(); at += 8) {
            String piece = text.substring(at, Math.min(text.length(), at + 8));
            calls.add(x -> x.write(piece.length(), Due.packed(piece)));
        }
        calls.add(x -> x.lay());
        for (int k = 0; k < 4; k++) {
            int told = k;
            calls.add(x -> x.guard(told, 5 << told));
            calls.add(x -> x.carrier(told, 20 * told));
            calls.add(x -> x.tenths(told, told + 1));
            calls.add(x -> x.row(3 * told, 9));
        }
        calls.add(x -> x.keep());
        calls.add(x -> x.back());
        return calls;
    }

    private static List<Call> asking() {
        List<Call> calls = new ArrayList<>();
        calls.add(x -> x.fault());
        calls.add(x -> x.path(11, 5));
        calls.add(x -> x.posts(28673, 2));
        calls.add(x -> x.bears(2048, 11));
        calls.add(x -> x.most(7, 0));
        calls.add(x -> x.most(7, 1));
        calls.add(x -> x.most(7, 2));
        calls.add(x -> x.judge(0));
        calls.add(x -> x.best(40, 0));
        calls.add(x -> x.fewest(30));
        calls.add(x -> x.more());
        calls.add(x -> x.oneMore(7, 2));
        calls.add(x -> x.weighed(3, 4, 0));
        calls.add(x -> x.way(40, 3));
        calls.add(x -> x.through(32767, 80));
        calls.add(x -> x.gain(32767, 80));
        calls.add(x -> x.bestWay(3, 0));
        calls.add(x -> x.leastPay());
        calls.add(x -> x.value(0));
        calls.add(x -> x.chance(0, 1, 1));
        calls.add(x -> x.told());
        calls.add(x -> x.nights(8, 15));
        calls.add(x -> x.count(5));
        return calls;
    }

    private static void doAll(BorderGuards x, List<Call> calls) {
        for (Call call : calls) {
            call.on(x);
        }
    }

    public static void main(String[] args) {
        Due.sentence(0, "An object is used for at most 512 calls");
        List<Call> telling = telling(wideLand());
        List<Call> asking = asking();
        for (int last = 0; last < asking.size(); last++) {
            BorderGuards fresh = new BorderGuards();
            doAll(fresh, telling);
            long want = asking.get(last).on(fresh);
            BorderGuards x = new BorderGuards();
            int left = CALLS - 1;
            while (left >= 2 * telling.size() + asking.size()) {
                doAll(x, telling);
                doAll(x, asking);
                left -= telling.size() + asking.size();
            }
            while (left > telling.size()) {
                asking.get(left % asking.size()).on(x);
                left--;
            }
            doAll(x, telling);
            Due.is("call 512, of kind " + last, asking.get(last).on(x), want);
        }
        writesAlone();
        Due.end();
    }

    private static void writesAlone() {
        BorderGuards x = new BorderGuards();
        for (int call = 1; call < CALLS; call++) {
            int length = Math.min(call, 400);
            Due.is("write(1, ..) as call " + call, x.write(1, 'x'), call <= 400 ? length : Due.FULL);
        }
        Due.is("wipe() as call 512", x.wipe(), 400);
    }
}
