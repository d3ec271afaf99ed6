import java.lang.reflect.Method;
import java.util.Arrays;

/** What tests share: checks that are counted, texts on the tape, some ways to a state. */
abstract class Checks {
    static final int NONE = DeltaNests.NONE;
    static final int MIN = Integer.MIN_VALUE;
    static final int MAX = Integer.MAX_VALUE;
    static int wrong = 0;
    static int checks = 0;
    static String at = "";

    static void due(String what, long got, long want) {
        checks++;
        if (got != want) {
            wrong++;
            System.out.println(at + ": " + what + " answered " + got + ", due is " + want);
        }
    }

    static void due(String what, boolean got, boolean want) {
        due(what, got ? 1 : 0, want ? 1 : 0);
    }

    static void tape(DeltaNests x, String text) {
        x.end(0);
        for (int i = 0; i < text.length(); i += 20) {
            int[] w = new int[5];
            for (int j = 0; j < 20; j++) {
                int c = i + j < text.length() ? text.charAt(i + j) & 255 : 0;
                w[j / 4] = w[j / 4] << 8 | c;
            }
            x.feed(w[0], w[1], w[2], w[3], w[4]);
        }
        due("end of the tape", x.end(text.length()), text.length());
    }

    static int read(DeltaNests x, String text) {
        tape(x, text);
        return x.text();
    }

    static void faulty(String text, int fault, int place) {
        DeltaNests x = new DeltaNests();
        due("text " + text, read(x, text), NONE);
        due("fault of " + text, x.fault(0), fault);
        due("place in " + text, x.fault(1), place);
    }

    static void faultless(String text) {
        DeltaNests x = new DeltaNests();
        due("text " + text, read(x, text), 0);
        due("fault of " + text, x.fault(0), 0);
        due("place in " + text, x.fault(1), NONE);
    }

    /** A new object under a text. */
    static DeltaNests under(String text) {
        DeltaNests x = new DeltaNests();
        due("text " + text, read(x, text), 0);
        due("by(0)", x.by(0), true);
        return x;
    }

    static DeltaNests lossless() {
        return under("loses 0;");
    }

    /** Replica a's STATE comes to b and is acked. */
    static void sync(DeltaNests x, int a, int b) {
        x.send(a, b);
        x.day(2);
        x.day(2);
    }

    /** The sum as a law, by what is asked of speaks: whether it is above the number. */
    static int worth(DeltaNests x, String sum, int from, int to, int behind) {
        int lo = -1000000;
        int hi = 1000000;
        while (lo < hi) {
            int mid = Math.floorDiv(lo + hi + 1, 2);
            x.image();
            String bar = mid < 0 ? "- (0 - " + part(-mid) + ")" : "- " + part(mid);
            due("text of a sum", read(x, "speaks (" + sum + ") + 1 " + bar + ";") >= 0, true);
            x.said(NONE, 0, 0, 0);
            x.said(from, to, behind, 1);
            boolean atLeast = (x.whose() >> x.about(0) - 1 & 1) == 1;
            x.back();
            if (atLeast) {
                lo = mid;
            } else {
                hi = mid - 1;
            }
        }
        return lo;
    }

    static String part(int n) {
        return "(" + n / 1000 + " * 1000 + " + n % 1000 + ")";
    }

    static void worthIs(String sum, int want) {
        DeltaNests x = new DeltaNests();
        x.set(2, 1, 1, 1);
        x.set(2, 1, 1, 2);
        x.set(2, 1, 0, 2);
        x.set(1, 1, 0, 2);
        x.set(0, 1, 0, 2);
        x.set(0, 1, 0, 2);
        x.day(12);
        due(sum, worth(x, sum, 2, 3, 7), want);
    }

    /** Ticks by a text of 24 times 12, then by hand; it ends, too, where a broken class lets none pass. */
    static void pass(DeltaNests x, int ticks) {
        StringBuilder days = new StringBuilder();
        for (int i = 0; i < 24; i++) {
            days.append("day 12;");
        }
        int text = read(x, days.toString());
        for (int i = 0; i < 40 && x.is(0) + 288 <= ticks; i++) {
            due("played", x.played(text), NONE);
        }
        for (int i = 0; i < 30 && x.is(0) < ticks; i++) {
            x.day(Math.min(12, ticks - x.is(0)));
        }
        due("clock", x.is(0), ticks);
    }

    /** What years do, told in calls by hand, x kept aside: the clock. */
    static int tellYears(DeltaNests y, int seed, int n) {
        int drawn = seed * 2 + 509;
        for (int i = 0; i < n; i++) {
            int x = drawn;
            drawn = (drawn * 773 + 641) % 31139;
            int sent = y.is(2);
            int r = x / 8 % 4;
            switch (x % 8) {
                case 0: case 1: case 2:
                    y.set(r, x / 32 % 4, x % 3, x % 100);
                    break;
                case 3:
                    y.reset(r, x / 32 % 4);
                    break;
                case 4: case 5:
                    y.send(r, (r + 1 + x / 32 % 3) % 4);
                    break;
                default:
                    y.day(1);
                    break;
            }
            for (int s = y.is(2); s > sent; s--) {
                drawn = (drawn * 773 + 641) % 31139;
            }
        }
        return y.is(0);
    }

    /** What a STEP may change, in few calls. */
    static String world(DeltaNests x) {
        StringBuilder all = new StringBuilder();
        for (int r = 0; r < 4; r++) {
            all.append(x.digest(r)).append(' ').append(x.parts(r)).append(' ').append(x.is(r)).append(' ').append(x.delta(r, NONE, 0)).append(' ');
            for (int i = 0; i < 4; i++) {
                all.append(x.of(r, i)).append(' ').append(x.acked(r, i)).append(' ').append(x.flight(i, r)).append(' ').append(x.book(i, r)).append(' ');
            }
        }
        return all.append(x.flight(NONE, 0)).append(' ').append(x.book(NONE, 0)).append(' ').append(x.about(2)).toString();
    }

    /** A call by its name; a boolean counts 1 or 0. */
    static long call(DeltaNests x, String name, int... args) {
        for (Method method : DeltaNests.class.getMethods()) {
            if (method.getName().equals(name) && method.getParameterCount() == args.length) {
                Object[] all = new Object[args.length];
                for (int i = 0; i < args.length; i++) {
                    all[i] = args[i];
                }
                try {
                    Object answer = method.invoke(x, all);
                    return answer instanceof Boolean ? ((Boolean) answer ? 1 : 0) : (Integer) answer;
                } catch (ReflectiveOperationException e) {
                    throw new IllegalStateException(name + Arrays.toString(args), e);
                }
            }
        }
        throw new IllegalStateException(name);
    }

    /** What a refused call would change, in few calls. */
    static String brief(DeltaNests x) {
        StringBuilder all = new StringBuilder();
        for (int what = 0; what < 6; what++) {
            all.append(x.about(what)).append(' ').append(x.is(what)).append(' ');
        }
        for (int r = 0; r < 4; r++) {
            all.append(x.digest(r)).append(' ').append(x.of(r, 0)).append(' ').append(x.of(r, 1)).append(' ').append(x.parts(r)).append(' ');
        }
        return all.append(x.flight(NONE, 0)).append(' ').append(x.book(NONE, 0)).toString();
    }

    /** Calls that answer that they are refused, and do nothing. */
    static void refused(DeltaNests x, String name, long refusal, int[]... rows) {
        String before = brief(x);
        for (int[] row : rows) {
            due(name + Arrays.toString(row), call(x, name, row), refusal);
        }
        due("nothing is done by " + name, brief(x).equals(before), true);
    }

    /**
     * Each argument at its first and its last value is answered, beyond them refused: limits are {first, last},
     * or {first, last, what is below the first} where that isn't the one ahead of it.
     */
    static void edges(DeltaNests x, String name, long refusal, int[] good, int[]... limits) {
        for (int i = 0; i < good.length; i++) {
            int[] limit = limits[i];
            for (int end = 0; end < 2; end++) {
                int[] inside = with(good, i, limit[end]);
                due(name + Arrays.toString(inside) + " is answered", call(x, name, inside) != refusal, true);
            }
            int below = limit.length > 2 ? limit[2] : limit[0] - 1;
            refused(x, name, refusal, with(good, i, below), with(good, i, limit[1] + 1), with(good, i, MIN), with(good, i, MAX));
        }
    }

    private static int[] with(int[] good, int i, int value) {
        int[] row = good.clone();
        row[i] = value;
        return row;
    }

    static void edges(DeltaNests x, String name, long refusal, int good, int first, int last) {
        edges(x, name, refusal, new int[] {good}, new int[] {first, last});
    }

    /** Every two REPLICAS that are one are refused. */
    static void unlikeOnes(DeltaNests x, String name, long refusal, int... more) {
        int[][] rows = new int[4][];
        for (int r = 0; r < 4; r++) {
            rows[r] = new int[2 + more.length];
            rows[r][0] = r;
            rows[r][1] = r;
            System.arraycopy(more, 0, rows[r], 2, more.length);
        }
        refused(x, name, refusal, rows);
    }

    /** All have what all set in each KEY and FIELD; each has something to send to each (what came to it). */
    static DeltaNests alikeOnes() {
        DeltaNests x = lossless();
        for (int i = 0; i < 48; i++) {
            x.set(i % 4, i / 4 % 4, i / 16, i);
        }
        for (int i = 0; i < 16; i++) {
            if (i / 4 != i % 4) {
                x.send(i / 4, i % 4);
            }
        }
        x.day(4);
        return x;
    }

    /** As those, but each has set one KEY and FIELD again, and one MESSAGE is IN FLIGHT. */
    static DeltaNests full() {
        DeltaNests x = alikeOnes();
        for (int r = 0; r < 4; r++) {
            x.set(r, 3, 2, 99);
        }
        x.send(1, 2);
        return x;
    }

    /** The draw behind the one of X. */
    static int drawn(int x) {
        return (x * 773 + 641) % 31139;
    }
}
