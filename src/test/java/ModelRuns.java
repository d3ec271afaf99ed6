import java.util.ArrayList;
import java.util.Arrays;
import java.util.LinkedList;
import java.util.List;
import java.util.Map;
import java.util.Random;
import java.util.TreeMap;
import java.util.TreeSet;
import java.util.function.IntSupplier;

/**
 * A second, slow telling of the document by sets and maps, and drawn runs of calls on both:
 * what the class holds in bits, rings and code must answer as the plain one does.
 */
public final class ModelRuns {
    private static int wrong = 0;

    public static void main(String[] args) {
        int runs = args.length > 0 ? Integer.parseInt(args[0]) : 600;
        int first = args.length > 1 ? Integer.parseInt(args[1]) : 1;
        for (int seed = first; seed < first + runs && wrong < 10; seed++) {
            new Run(seed).go();
        }
        System.out.println(wrong == 0 ? "model: all answers are alike" : "model: " + wrong + " runs differ");
        if (wrong != 0) {
            System.exit(1);
        }
    }

    /** One drawn run of some 480 calls: what is answered beyond 512 is free. */
    private static final class Run {
        final Random draw;
        final DeltaNests real = new DeltaNests();
        final Model model = new Model();
        final int seed;
        final List<String> calls = new ArrayList<>();
        final int[] weights = new int[16];

        Run(int seed) {
            this.seed = seed;
            draw = new Random(seed);
            for (int i = 0; i < weights.length; i++) {
                weights[i] = draw.nextInt(10);
            }
        }

        /** Some runs begin near an edge: the last CLOCK, the last number, 24 in flight. */
        boolean begin() {
            switch (seed % 8) {
                case 1:
                    StringBuilder days = new StringBuilder("loses 0;speaks behind;");
                    for (int i = 0; i < 22; i++) {
                        days.append("day 12;");
                    }
                    boolean good = tape(days.toString());
                    for (int i = 0; good && i < 37; i++) {
                        good = check("played(0)", real.played(0), model.played(0));
                    }
                    for (int i = draw.nextInt(10); good && i < 19; i++) {
                        good = check("day(12)", real.day(12), model.day(12));
                    }
                    return good;
                case 2:
                    for (int i = 0; i < 61; i++) {
                        int a = draw.nextInt(12) == 0 ? 1 : 2, b = draw.nextInt(4), c = draw.nextInt(3);
                        if (!check("set(" + a + "," + b + "," + c + ",1)", real.set(a, b, c, 1), model.set(a, b, c, 1))) {
                            return false;
                        }
                    }
                    return true;
                case 3:
                    return tape("loses bulk - 9;") && check("by(0)", real.by(0) ? 1 : 0, model.by(0) ? 1 : 0)
                        && check("delay(9)", real.delay(9) ? 1 : 0, model.delay(9) ? 1 : 0);
                default:
                    return true;
            }
        }

        void go() {
            if (!begin()) {
                wrong++;
            }
            for (int i = calls.size(); i < 450;) {
                int before = calls.size();
                boolean good = i % 3 == 0 || draw.nextInt(3) == 0 ? act() : ask();
                i += calls.size() - before;
                if (!good) {
                    wrong++;
                    System.out.println("seed " + seed + ": " + String.join("; ",
                        calls.subList(Math.max(0, calls.size() - 12), calls.size())));
                    return;
                }
            }
        }

        boolean check(String call, long got, long want) {
            calls.add(call + " = " + got);
            if (got != want) {
                System.out.println("call " + calls.size() + " " + call + " answered " + got + ", the model says " + want);
            }
            return got == want;
        }

        /** Mostly in lo..hi, now and then beyond. */
        int some(int lo, int hi) {
            int kind = draw.nextInt(40);
            if (kind == 0) {
                return lo - 1 - draw.nextInt(2);
            }
            if (kind == 1) {
                return hi + 1 + draw.nextInt(2);
            }
            if (kind == 2 && draw.nextInt(4) == 0) {
                return draw.nextBoolean() ? Integer.MIN_VALUE : Integer.MAX_VALUE;
            }
            return lo + draw.nextInt(hi - lo + 1);
        }

        boolean act() {
            int total = 0;
            for (int w : weights) {
                total += w + 1;
            }
            int at = draw.nextInt(total);
            int kind = 0;
            while (at > weights[kind]) {
                at -= weights[kind] + 1;
                kind++;
            }
            int a = some(0, 3), b = some(0, 3), c = some(0, 2), d = some(0, 99);
            switch (kind) {
                case 0: case 1: case 2:
                    return check("set(" + a + "," + b + "," + c + "," + d + ")", real.set(a, b, c, d), model.set(a, b, c, d));
                case 3:
                    return check("clear(" + a + "," + b + "," + c + ")", real.clear(a, b, c), model.clear(a, b, c));
                case 4:
                    return check("reset(" + a + "," + b + ")", real.reset(a, b), model.reset(a, b));
                case 5: case 6: case 7:
                    return check("send(" + a + "," + b + ")", real.send(a, b), model.send(a, b));
                case 8: case 9:
                    int n = some(1, draw.nextInt(3) == 0 ? 12 : 3);
                    return check("day(" + n + ")", real.day(n), model.day(n));
                case 10:
                    int seed2 = some(0, 9999), m = some(1, 24);
                    return check("years(" + seed2 + "," + m + ")", real.years(seed2, m), model.years(seed2, m));
                case 11:
                    return check("undo()", real.undo(), model.undo());
                case 12:
                    return tell();
                case 13:
                    return text();
                case 14:
                    int t = some(0, 3);
                    return check("played(" + t + ")", real.played(t), model.played(t));
                default:
                    if (draw.nextInt(3) == 0) {
                        return check("image()", real.image(), model.image());
                    }
                    return draw.nextInt(4) != 0 || check("back()", real.back(), model.back());
            }
        }

        boolean tell() {
            int a = some(0, 3), b = some(0, 3);
            switch (draw.nextInt(4)) {
                case 0:
                    int n = some(1, 9);
                    return check("delay(" + n + ")", real.delay(n) ? 1 : 0, model.delay(n) ? 1 : 0);
                case 1:
                    int t = some(-1, 3);
                    return check("by(" + t + ")", real.by(t) ? 1 : 0, model.by(t) ? 1 : 0);
                case 2:
                    int h = some(0, draw.nextBoolean() ? 3 : 99), s = some(0, 1);
                    if (draw.nextInt(6) == 0) {
                        a = -1;
                    }
                    return check("said(" + a + "," + b + "," + h + "," + s + ")", real.said(a, b, h, s), model.said(a, b, h, s));
                default:
                    int e = some(0, 40);
                    return check("end(" + e + ")", real.end(e), model.end(e));
            }
        }

        boolean text() {
            if (draw.nextInt(10) != 0 && !check("end(0)", real.end(0), model.end(0))) {
                return false;
            }
            boolean good = tape(new Script(draw).text());
            if (good && draw.nextInt(2) == 0 && model.texts.size() > 0) {
                int t = model.texts.size() - 1;
                good = check("by(" + t + ")", real.by(t) ? 1 : 0, model.by(t) ? 1 : 0);
            }
            return good;
        }

        boolean tape(String source) {
            byte[] bytes = new byte[(source.length() + 19) / 20 * 20];
            for (int i = 0; i < source.length(); i++) {
                bytes[i] = (byte) source.charAt(i);
            }
            for (int i = 0; i < bytes.length; i += 20) {
                int[] w = new int[5];
                for (int j = 0; j < 20; j++) {
                    w[j / 4] = w[j / 4] << 8 | bytes[i + j] & 255;
                }
                if (!check("feed(" + Arrays.toString(w) + ")", real.feed(w[0], w[1], w[2], w[3], w[4]),
                    model.feed(w[0], w[1], w[2], w[3], w[4]))) {
                    return false;
                }
            }
            int n = draw.nextInt(20) == 0 ? draw.nextInt(source.length() + 1) : source.length();
            return check("end(" + n + ")", real.end(n), model.end(n))
                && check("text() of " + source.replace('\n', ' '), real.text(), model.text())
                && check("fault(0)", real.fault(0), model.fault(0)) && check("fault(1)", real.fault(1), model.fault(1));
        }

        boolean ask() {
            int a = some(0, 3), b = some(0, 3), c = some(0, 2), i = some(-1, 6);
            switch (draw.nextInt(36)) {
                case 0: return check("values(" + a + "," + b + "," + c + "," + i + ")", real.values(a, b, c, i), model.values(a, b, c, i));
                case 1: { int w = some(0, 4); return check("entry(" + a + "," + i + "," + w + ")", real.entry(a, i, w), model.entry(a, i, w)); }
                case 2: return check("context(" + a + "," + b + ")", real.context(a, b), model.context(a, b));
                case 3: case 4: { int w = some(0, 1); return check("cloud(" + a + "," + b + "," + i + "," + w + ")", real.cloud(a, b, i, w), model.cloud(a, b, i, w)); }
                case 5: { int w = some(1, draw.nextBoolean() ? 63 : 6); return check("knows(" + a + "," + b + "," + w + ")", real.knows(a, b, w) ? 1 : 0, model.knows(a, b, w) ? 1 : 0); }
                case 6: { int w = some(0, 2); return check("delta(" + a + "," + i + "," + w + ")", real.delta(a, i, w), model.delta(a, i, w)); }
                case 7: { int w = some(0, 3); return check("of(" + a + "," + w + ")", real.of(a, w), model.of(a, w)); }
                case 8: return check("acked(" + a + "," + b + ")", real.acked(a, b), model.acked(a, b));
                case 9: case 10: { int w = some(0, 6), j = some(-1, 23); return check("flight(" + j + "," + w + ")", real.flight(j, w), model.flight(j, w)); }
                case 11: { int w = some(0, 3); return check("is(" + w + ")", real.is(w), model.is(w)); }
                case 12: case 13: { int w = some(0, 3), j = some(-1, 24); return check("book(" + j + "," + w + ")", real.book(j, w), model.book(j, w)); }
                case 14: { int w = some(1, 12); return check("foretold(" + w + "," + a + ")", real.foretold(w, a), model.foretold(w, a)); }
                case 15: return check("need(" + a + "," + b + ")", real.need(a, b), model.need(a, b));
                case 16: { int w = some(0, 1); return check("would(" + a + "," + b + "," + w + ")", real.would(a, b, w), model.would(a, b, w)); }
                case 17: return check("digest(" + a + ")", real.digest(a), model.digest(a));
                case 18: return check("same(" + a + "," + b + ")", real.same(a, b) ? 1 : 0, model.same(a, b) ? 1 : 0);
                case 19: return check("below(" + a + "," + b + ")", real.below(a, b) ? 1 : 0, model.below(a, b) ? 1 : 0);
                case 20: { int w = some(0, 2); return check("join(" + a + "," + b + "," + w + ")", real.join(a, b, w), model.join(a, b, w)); }
                case 21: { int w = some(0, 2); return check("all(" + w + ")", real.all(w), model.all(w)); }
                case 22: return check("parts(" + a + ")", real.parts(a), model.parts(a));
                case 23: return check("unlike(" + a + "," + b + ")", real.unlike(a, b), model.unlike(a, b));
                case 24: return check("spared(" + a + "," + b + ")", real.spared(a, b), model.spared(a, b));
                case 25: return check("winner(" + a + "," + b + "," + c + ")", real.winner(a, b, c), model.winner(a, b, c));
                case 26: return check("torn(" + a + ")", real.torn(a), model.torn(a));
                case 27: return check("fields(" + a + "," + b + ")", real.fields(a, b), model.fields(a, b));
                case 28: return check("sum(" + a + "," + b + ")", real.sum(a, b), model.sum(a, b));
                case 29: return check("share(" + a + "," + b + ")", real.share(a, b), model.share(a, b));
                case 30: return check("behind(" + a + ")", real.behind(a), model.behind(a));
                case 31: return check("freshest()", real.freshest(), model.freshest())
                    && check("quiet()", real.quiet() ? 1 : 0, model.quiet() ? 1 : 0);
                case 32: return check("till()", real.till(), model.till());
                case 33: return check("speaks(" + a + "," + b + ")", real.speaks(a, b) ? 1 : 0, model.speaks(a, b) ? 1 : 0);
                case 34: return check("whose()", real.whose(), model.whose());
                default: { int w = some(0, 4), v = some(0, 5);
                    return check("ledger(" + w + ")", real.ledger(w), model.ledger(w)) && check("about(" + v + ")", real.about(v), model.about(v)); }
            }
        }
    }

    /** Draws texts, most of them without a fault. */
    private static final class Script {
        final Random draw;

        Script(Random draw) {
            this.draw = draw;
        }

        String text() {
            String text = "";
            for (int tries = 0; tries < 20; tries++) {
                text = draw();
                if (text.length() <= 300 && text.length() > 0) {
                    break;
                }
            }
            if (text.length() > 300) {
                text = text.substring(0, 300);
            }
            return draw.nextInt(4) == 0 ? spoil(text) : text;
        }

        String draw() {
            StringBuilder out = new StringBuilder();
            if (draw.nextInt(3) != 0) {
                out.append("loses ").append(sum(draw.nextInt(5), true)).append(";");
            }
            int acts = draw.nextInt(draw.nextInt(12) == 0 ? 28 : 6);
            for (int i = 0; i < acts; i++) {
                out.append(act());
            }
            if (draw.nextInt(4) != 0) {
                out.append("speaks ").append(sum(draw.nextInt(5), false)).append(";");
            }
            return out.toString();
        }

        String act() {
            int r = draw.nextInt(4), k = draw.nextInt(4), f = draw.nextInt(3), v = draw.nextInt(100);
            switch (draw.nextInt(7)) {
                case 0: return "set " + f + " of " + k + " at " + r + " to " + v + ";";
                case 1: return "set " + f + "of" + k + "at" + r + "to" + v + " ;\n";
                case 2: return "clear " + f + " of " + k + " at " + r + ";";
                case 3: return "reset " + k + " at " + r + ";";
                case 4: return "send " + r + " to " + k + ";";
                default: return "day " + (1 + draw.nextInt(draw.nextInt(3) == 0 ? 12 : 2)) + ";";
            }
        }

        String sum(int deep, boolean loses) {
            StringBuilder out = new StringBuilder(product(deep, loses));
            while (draw.nextInt(4) == 0) {
                out.append(draw.nextBoolean() ? "+" : "- ").append(product(deep, loses));
            }
            return out.toString();
        }

        String product(int deep, boolean loses) {
            StringBuilder out = new StringBuilder(one(deep, loses));
            while (draw.nextInt(5) == 0) {
                out.append(draw.nextBoolean() ? "*" : " / ").append(one(deep, loses));
            }
            return out.toString();
        }

        String one(int deep, boolean loses) {
            if (deep <= 0) {
                String[] names = loses ? new String[] {"clock", "sender", "other", "answer", "bulk"}
                    : new String[] {"clock", "sender", "other", "behind"};
                switch (draw.nextInt(4)) {
                    case 0: return "" + draw.nextInt(draw.nextInt(4) == 0 ? 10000 : 12);
                    case 1: return " " + draw.nextInt(4) + " ";
                    default: return " " + names[draw.nextInt(names.length)] + " ";
                }
            }
            switch (draw.nextInt(8)) {
                case 0: return "(" + sum(deep - 1, loses) + ")";
                case 1: return "-" + one(deep - 1, loses);
                case 2: return "has " + one(deep - 1, loses);
                case 3: return "known " + one(deep - 1, loses);
                case 4: case 5:
                    return "if " + either(deep - 1, loses) + " then " + sum(deep - 1, loses) + " else " + sum(deep - 1, loses) + " end ";
                default: return one(0, loses);
            }
        }

        String either(int deep, boolean loses) {
            StringBuilder out = new StringBuilder(both(deep, loses));
            while (draw.nextInt(4) == 0) {
                out.append(" or ").append(both(deep, loses));
            }
            return out.toString();
        }

        String both(int deep, boolean loses) {
            StringBuilder out = new StringBuilder(ask(deep, loses));
            while (draw.nextInt(4) == 0) {
                out.append(" and ").append(ask(deep, loses));
            }
            return out.toString();
        }

        String ask(int deep, boolean loses) {
            if (draw.nextInt(4) == 0) {
                return "not " + ask(deep - 1, loses);
            }
            String[] relations = {"<", "<=", ">", ">=", "=", "#"};
            return sum(deep - 1, loses) + relations[draw.nextInt(6)] + sum(deep - 1, loses);
        }

        String spoil(String text) {
            String[] bits = {"loses ", "speaks ", "behind", "bulk", "(((((((((", "- - - - - - - - -", "has ", "not ", "if ",
                "10000", "12345678901", ";", ")", "\u00e9", "Day", "<", "=", " ", "end", "then", "9", "x", "\0", "\n", "\t",
                "not not not not not not not not not "};
            int at = draw.nextInt(text.length() + 1);
            int to = Math.min(text.length(), at + draw.nextInt(4));
            String out = text.substring(0, at) + (draw.nextInt(3) == 0 ? "" : bits[draw.nextInt(bits.length)]) + text.substring(to);
            return out.length() > 300 ? out.substring(0, 300) : out.length() == 0 ? " " : out;
        }
    }

    private static final class Dot implements Comparable<Dot> {
        final int replica;
        final int number;

        Dot(int replica, int number) {
            this.replica = replica;
            this.number = number;
        }

        @Override
        public int compareTo(Dot o) {
            return replica != o.replica ? Integer.compare(replica, o.replica) : Integer.compare(number, o.number);
        }
    }

    private static final class State {
        final TreeMap<Dot, int[]> entries = new TreeMap<>();
        final TreeSet<Dot> known = new TreeSet<>();

        State copy() {
            State s = new State();
            s.entries.putAll(entries);
            s.known.addAll(known);
            return s;
        }

        State join(State o) {
            State s = new State();
            s.known.addAll(known);
            s.known.addAll(o.known);
            for (Dot d : s.known) {
                boolean here = entries.containsKey(d), there = o.entries.containsKey(d);
                if (here && there || here && !o.known.contains(d) || there && !known.contains(d)) {
                    s.entries.put(d, here ? entries.get(d) : o.entries.get(d));
                }
            }
            return s;
        }

        boolean alike(State o) {
            return known.size() == o.known.size() && known.containsAll(o.known) && entries.size() == o.entries.size()
                && entries.keySet().containsAll(o.entries.keySet());
        }

        int vector(int replica) {
            int n = 0;
            while (known.contains(new Dot(replica, n + 1))) {
                n++;
            }
            return n;
        }

        List<Dot> of(int key, int field) {
            List<Dot> list = new ArrayList<>();
            for (Map.Entry<Dot, int[]> e : entries.entrySet()) {
                if ((key < 0 || e.getValue()[0] == key) && (field < 0 || e.getValue()[1] == field)) {
                    list.add(e.getKey());
                }
            }
            return list;
        }

        List<Dot> cloud() {
            List<Dot> list = new ArrayList<>();
            for (Dot d : known) {
                if (d.number > vector(d.replica)) {
                    list.add(d);
                }
            }
            return list;
        }

        int digest() {
            int digest = 0;
            for (Map.Entry<Dot, int[]> e : entries.entrySet()) {
                int[] v = e.getValue();
                digest = (31 * digest + 101 * e.getKey().replica + 7 * e.getKey().number + 5 * v[0] + 3 * v[1] + v[2]) % 9973;
            }
            return digest;
        }

        State withReset(int key) {
            State delta = new State();
            delta.known.addAll(of(key, -1));
            return join(delta);
        }
    }

    private static final class Message {
        final int from;
        final int to;
        final int at;
        final boolean answer;
        final int upTo;
        final State state;

        Message(int from, int to, int at, boolean answer, int upTo, State state) {
            this.from = from;
            this.to = to;
            this.at = at;
            this.answer = answer;
            this.upTo = upTo;
            this.state = state;
        }
    }

    private static final class Net {
        final State[] states = {new State(), new State(), new State(), new State()};
        final List<List<State>> deltas = new ArrayList<>();
        final int[] dropped = new int[4];
        final int[][] acked = new int[4][4];
        List<Message> flight = new LinkedList<>();
        List<int[]> book = new LinkedList<>();
        int clock = 0;
        int x = 509;
        int sent = 0;
        int lost = 0;

        Net() {
            for (int i = 0; i < 4; i++) {
                deltas.add(new ArrayList<>());
            }
        }

        Net copy() {
            Net n = new Net();
            for (int i = 0; i < 4; i++) {
                n.states[i] = states[i];
                n.deltas.get(i).addAll(deltas.get(i));
                n.dropped[i] = dropped[i];
                n.acked[i] = acked[i].clone();
            }
            n.flight.addAll(flight);
            n.book.addAll(book);
            n.clock = clock;
            n.x = x;
            n.sent = sent;
            n.lost = lost;
            return n;
        }

        void write(int what, int a, int b) {
            book.add(new int[] {clock, what, a, b});
            if (book.size() > 25) {
                book.remove(0);
            }
        }

        void drop(int r) {
            int least = Integer.MAX_VALUE;
            for (int o = 0; o < 4; o++) {
                least = o == r ? least : Math.min(least, acked[r][o]);
            }
            while (dropped[r] < deltas.get(r).size() && (deltas.get(r).size() - dropped[r] > 6 || dropped[r] < least)) {
                dropped[r]++;
            }
        }

        void delta(int r, State delta) {
            deltas.get(r).add(delta);
            drop(r);
        }

        int set(int r, int key, int field, int value) {
            int number = states[r].vector(r) + 1;
            if (number > 63) {
                return -1;
            }
            State d = new State();
            d.known.addAll(states[r].of(key, field));
            d.known.add(new Dot(r, number));
            d.entries.put(new Dot(r, number), new int[] {key, field, value});
            states[r] = states[r].join(d);
            delta(r, d);
            write(0, r, key);
            return number;
        }

        int gone(int r, int key, int field) {
            List<Dot> dots = states[r].of(key, field);
            if (dots.isEmpty()) {
                return -1;
            }
            State d = new State();
            d.known.addAll(dots);
            states[r] = states[r].join(d);
            delta(r, d);
            write(field < 0 ? 2 : 1, r, key);
            return dots.size();
        }

        State would(int from, int to) {
            int count = deltas.get(from).size();
            if (from == to || acked[from][to] >= count) {
                return null;
            }
            if (dropped[from] > acked[from][to]) {
                return states[from];
            }
            State s = new State();
            for (int n = acked[from][to]; n < count; n++) {
                s = s.join(deltas.get(from).get(n));
            }
            return s;
        }

        void post(Model m, Message message) {
            sent++;
            int drawn = x % 10;
            x = (x * 773 + 641) % 31139;
            if (drawn < m.loses(this, message) || flight.size() >= 24) {
                lost++;
                write(3, message.to, message.from);
            } else {
                flight.add(message);
            }
        }

        int send(Model m, int from, int to) {
            State s = would(from, to);
            if (s == null) {
                return -1;
            }
            int upTo = deltas.get(from).size();
            post(m, new Message(from, to, clock + m.delay, false, upTo, s));
            return upTo;
        }

        int tick(Model m) {
            clock++;
            int came = 0;
            for (Message message : new ArrayList<>(flight)) {
                if (message.at == clock) {
                    flight.remove(message);
                    came++;
                    come(m, message);
                }
            }
            for (int from = 0; from < 4; from++) {
                for (int to = 0; to < 4; to++) {
                    if (would(from, to) != null && m.lets(m.ruling, this, from, to, deltas.get(from).size() - acked[from][to])) {
                        send(m, from, to);
                    }
                }
            }
            return came;
        }

        void come(Model m, Message message) {
            write(4, message.to, message.from);
            if (message.answer) {
                acked[message.to][message.from] = Math.max(acked[message.to][message.from], message.upTo);
                drop(message.to);
                return;
            }
            State joined = states[message.to].join(message.state);
            if (!joined.alike(states[message.to])) {
                states[message.to] = joined;
                delta(message.to, message.state);
            }
            post(m, new Message(message.to, message.from, clock + m.delay, true, message.upTo, new State()));
        }

        void year(Model m) {
            int drawn = x;
            x = (x * 773 + 641) % 31139;
            int r = drawn / 8 % 4, key = drawn / 32 % 4;
            int kind = drawn % 8;
            if (kind <= 2) {
                set(r, key, drawn % 3, drawn % 100);
            } else if (kind == 3) {
                gone(r, key, -1);
            } else if (kind <= 5) {
                send(m, r, (r + 1 + drawn / 32 % 3) % 4);
            } else if (clock < 9999) {
                tick(m);
            }
        }

        boolean quiet() {
            for (int i = 0; i < 16; i++) {
                if (would(i / 4, i % 4) != null) {
                    return false;
                }
            }
            return flight.isEmpty();
        }

        List<Message> inOrder() {
            List<Message> list = new ArrayList<>(flight);
            list.sort((a, b) -> Integer.compare(a.at, b.at));
            return list;
        }

        State all() {
            return states[0].join(states[1]).join(states[2]).join(states[3]);
        }
    }

    @SuppressWarnings("serial")
    private static final class Fault extends RuntimeException {
        final int which;
        final int place;

        Fault(int which, int place) {
            super(null, null, false, false);
            this.which = which;
            this.place = place;
        }
    }

    /** A tree of texts: what it is, its parts. */
    private static final class Tree {
        final String what;
        final long number;
        final Tree[] parts;

        Tree(String what, long number, Tree... parts) {
            this.what = what;
            this.number = number;
            this.parts = parts;
        }

        int value(Map<String, Integer> names, Net net) {
            switch (what) {
                case "number": return (int) number;
                case "if": return parts[0].value(names, net) != 0 ? parts[1].value(names, net) : parts[2].value(names, net);
                case "neg": return -parts[0].value(names, net);
                case "not": return 1 - parts[0].value(names, net);
                case "has": case "known":
                    int r = parts[0].value(names, net);
                    return r < 0 || r > 3 ? 0 : what.equals("has") ? net.states[r].entries.size() : net.states[r].known.size();
                default:
                    break;
            }
            if (parts.length == 0) {
                return names.get(what);
            }
            long a = parts[0].value(names, net), b = parts[1].value(names, net);
            switch (what) {
                case "+": return clip(a + b);
                case "-": return clip(a - b);
                case "*": return clip(a * b);
                case "/": return clip(b == 0 ? 0 : a / b);
                case "<": return a < b ? 1 : 0;
                case "<=": return a <= b ? 1 : 0;
                case ">": return a > b ? 1 : 0;
                case ">=": return a >= b ? 1 : 0;
                case "=": return a == b ? 1 : 0;
                case "#": return a != b ? 1 : 0;
                case "and": return a == 1 && b == 1 ? 1 : 0;
                case "or": return a == 1 || b == 1 ? 1 : 0;
                default: throw new IllegalStateException(what);
            }
        }

        static int clip(long v) {
            return (int) Math.max(-1000000, Math.min(1000000, v));
        }
    }

    private static final class Clauses {
        final List<Object[]> list = new ArrayList<>();
        Tree loses;
        Tree speaks;
    }

    private static final class Parser {
        final byte[] bytes;
        int at = 0;
        int start;
        String token;
        String law;
        final Clauses out = new Clauses();

        Parser(byte[] bytes) {
            this.bytes = bytes;
            next();
        }

        int kind(int i) {
            if (i >= bytes.length) {
                return 'e';
            }
            char c = (char) (bytes[i] & 255);
            return c >= 'a' && c <= 'z' || c >= 'A' && c <= 'Z' ? 'a' : c >= '0' && c <= '9' ? '0' : 's';
        }

        void next() {
            while (at < bytes.length && (bytes[at] == ' ' || bytes[at] == '\n')) {
                at++;
            }
            start = at;
            if (at >= bytes.length) {
                token = "";
                return;
            }
            int kind = kind(at);
            at++;
            if (kind == 's') {
                if ((bytes[start] == '<' || bytes[start] == '>') && at < bytes.length && bytes[at] == '=') {
                    at++;
                }
            } else {
                while (kind(at) == kind) {
                    at++;
                }
            }
            token = new String(bytes, start, at - start, java.nio.charset.StandardCharsets.ISO_8859_1);
        }

        Fault fault(int which) {
            return new Fault(which, start);
        }

        void need(String want) {
            if (!token.equals(want)) {
                throw fault(1);
            }
            next();
        }

        boolean isNumber() {
            return !token.isEmpty() && token.charAt(0) >= '0' && token.charAt(0) <= '9';
        }

        int number(int lo, int hi) {
            if (!isNumber()) {
                throw fault(1);
            }
            java.math.BigInteger n = new java.math.BigInteger(token);
            if (n.compareTo(java.math.BigInteger.valueOf(lo)) < 0 || n.compareTo(java.math.BigInteger.valueOf(hi)) > 0) {
                throw fault(2);
            }
            next();
            return n.intValue();
        }

        Clauses parse() {
            while (!token.isEmpty()) {
                String kind = token;
                if (!List.of("loses", "speaks", "set", "clear", "reset", "send", "day").contains(kind)) {
                    throw fault(1);
                }
                if (kind.equals("loses") && out.loses != null || kind.equals("speaks") && out.speaks != null) {
                    throw fault(4);
                }
                if (out.list.size() == 24) {
                    throw fault(6);
                }
                next();
                Object[] clause = {kind, 0, 0, 0, 0};
                switch (kind) {
                    case "loses": law = kind; out.loses = sum(0); break;
                    case "speaks": law = kind; out.speaks = sum(0); break;
                    case "set":
                        clause[1] = number(0, 2); need("of"); clause[2] = number(0, 3); need("at"); clause[3] = number(0, 3);
                        need("to"); clause[4] = number(0, 99); break;
                    case "clear":
                        clause[1] = number(0, 2); need("of"); clause[2] = number(0, 3); need("at"); clause[3] = number(0, 3); break;
                    case "reset": clause[1] = number(0, 3); need("at"); clause[2] = number(0, 3); break;
                    case "send": clause[1] = number(0, 3); need("to"); clause[2] = number(0, 3); break;
                    default: clause[1] = number(1, 12); break;
                }
                need(";");
                out.list.add(clause);
            }
            return out;
        }

        Tree sum(int open) {
            Tree t = product(open);
            while (token.equals("+") || token.equals("-")) {
                String what = token;
                next();
                t = new Tree(what, 0, t, product(open));
            }
            return t;
        }

        Tree product(int open) {
            Tree t = one(open);
            while (token.equals("*") || token.equals("/")) {
                String what = token;
                next();
                t = new Tree(what, 0, t, one(open));
            }
            return t;
        }

        Tree one(int open) {
            if (isNumber()) {
                return new Tree("number", number(0, 9999));
            }
            String what = token;
            if (List.of("clock", "sender", "other", "answer", "bulk", "behind").contains(what)) {
                boolean fits = what.equals("behind") ? law.equals("speaks")
                    : !what.equals("answer") && !what.equals("bulk") || law.equals("loses");
                if (!fits) {
                    throw fault(5);
                }
                next();
                return new Tree(what, 0);
            }
            if (!List.of("(", "-", "has", "known", "if").contains(what)) {
                throw fault(1);
            }
            if (open == 8) {
                throw fault(3);
            }
            next();
            Tree t;
            switch (what) {
                case "(":
                    t = sum(open + 1);
                    need(")");
                    return t;
                case "-": return new Tree("neg", 0, one(open + 1));
                case "if":
                    Tree a = either(open + 1);
                    need("then");
                    Tree b = sum(open + 1);
                    need("else");
                    Tree c = sum(open + 1);
                    need("end");
                    return new Tree("if", 0, a, b, c);
                default: return new Tree(what, 0, one(open + 1));
            }
        }

        Tree either(int open) {
            Tree t = both(open);
            while (token.equals("or")) {
                next();
                t = new Tree("or", 0, t, both(open));
            }
            return t;
        }

        Tree both(int open) {
            Tree t = ask(open);
            while (token.equals("and")) {
                next();
                t = new Tree("and", 0, t, ask(open));
            }
            return t;
        }

        Tree ask(int open) {
            if (token.equals("not")) {
                if (open == 8) {
                    throw fault(3);
                }
                next();
                return new Tree("not", 0, ask(open + 1));
            }
            Tree a = sum(open);
            if (!List.of("<", "<=", ">", ">=", "=", "#").contains(token)) {
                throw fault(1);
            }
            String what = token;
            next();
            return new Tree(what, 0, a, sum(open));
        }
    }

    /** The plain telling. */
    private static final class Model {
        byte[] tape = new byte[0];
        int fault = -1;
        int place = -1;
        List<Clauses> texts = new ArrayList<>();
        int ruling = -1;
        int delay = 2;
        List<int[]> said = new ArrayList<>();
        Net net = new Net();
        LinkedList<Net> steps = new LinkedList<>();
        Model image;

        Model() {
            this(true);
        }

        Model(boolean whole) {
            if (whole) {
                image = new Model(false);
            }
        }

        void take(Model o) {
            texts = new ArrayList<>(o.texts);
            ruling = o.ruling;
            delay = o.delay;
            said = new ArrayList<>(o.said);
            net = o.net.copy();
            steps = new LinkedList<>(o.steps);
        }

        static boolean r(int... rs) {
            for (int a : rs) {
                if (a < 0 || a > 3) {
                    return false;
                }
            }
            return true;
        }

        static boolean pair(int a, int b) {
            return r(a, b) && a != b;
        }

        int loses(Net n, Message m) {
            Tree law = ruling < 0 ? null : texts.get(ruling).loses;
            if (law == null) {
                return 3;
            }
            return Math.max(0, Math.min(10, law.value(Map.of("clock", n.clock, "sender", m.from, "other", m.to,
                "answer", m.answer ? 1 : 0, "bulk", m.state.entries.size()), n)));
        }

        boolean lets(int text, Net n, int from, int to, int behind) {
            Tree law = text < 0 ? null : texts.get(text).speaks;
            return law != null && law.value(Map.of("clock", n.clock, "sender", from, "other", to, "behind", behind), n) > 0;
        }

        int step(IntSupplier does) {
            Net before = net.copy();
            int answer = does.getAsInt();
            if (answer != -1) {
                steps.add(before);
                if (steps.size() > 30) {
                    steps.removeFirst();
                }
            }
            return answer;
        }

        int feed(int... words) {
            if (tape.length + 20 > 300) {
                return -1;
            }
            int n = tape.length;
            tape = Arrays.copyOf(tape, n + 20);
            for (int i = 0; i < 20; i++) {
                tape[n + i] = (byte) (words[i / 4] >>> (24 - i % 4 * 8));
            }
            return tape.length;
        }

        int end(int n) {
            if (n < 0 || n > tape.length) {
                return -1;
            }
            tape = Arrays.copyOf(tape, n);
            return n;
        }

        int text() {
            if (texts.size() == 4) {
                return -1;
            }
            byte[] bytes = tape;
            tape = new byte[0];
            try {
                texts.add(new Parser(bytes).parse());
                fault = 0;
                place = -1;
                return texts.size() - 1;
            } catch (Fault f) {
                fault = f.which;
                place = f.place;
                return -1;
            }
        }

        int fault(int what) {
            return what == 0 ? fault : what == 1 ? place : -1;
        }

        boolean by(int t) {
            if (t < -1 || t >= texts.size()) {
                return false;
            }
            ruling = t;
            return true;
        }

        boolean delay(int n) {
            if (n < 1 || n > 9) {
                return false;
            }
            delay = n;
            return true;
        }

        int set(int a, int b, int c, int d) {
            return !r(a, b) || c < 0 || c > 2 || d < 0 || d > 99 ? -1 : step(() -> net.set(a, b, c, d));
        }

        int clear(int a, int b, int c) {
            return !r(a, b) || c < 0 || c > 2 ? -1 : step(() -> net.gone(a, b, c));
        }

        int reset(int a, int b) {
            return !r(a, b) ? -1 : step(() -> net.gone(a, b, -1));
        }

        int send(int a, int b) {
            return !pair(a, b) ? -1 : step(() -> net.send(this, a, b));
        }

        int day(int n) {
            if (n < 1 || n > 12 || net.clock > 9999 - n) {
                return -1;
            }
            int came = 0;
            for (int i = 0; i < n; i++) {
                came += step(() -> net.tick(this));
            }
            return came;
        }

        int played(int t) {
            if (t < 0 || t >= texts.size()) {
                return -2;
            }
            List<Object[]> list = texts.get(t).list;
            for (int i = 0; i < list.size(); i++) {
                int a = (Integer) list.get(i)[1], b = (Integer) list.get(i)[2], c = (Integer) list.get(i)[3], d = (Integer) list.get(i)[4];
                boolean good = true;
                switch ((String) list.get(i)[0]) {
                    case "set": good = set(c, b, a, d) != -1; break;
                    case "clear": good = clear(c, b, a) != -1; break;
                    case "reset": good = reset(b, a) != -1; break;
                    case "send": good = send(a, b) != -1; break;
                    case "day":
                        for (int j = 0; j < a && good; j++) {
                            good = day(1) != -1;
                        }
                        break;
                    default: break;
                }
                if (!good) {
                    return i;
                }
            }
            return -1;
        }

        int years(int seed, int n) {
            if (seed < 0 || seed > 9999 || n < 1 || n > 24) {
                return -1;
            }
            return step(() -> {
                net.x = 509 + 2 * seed;
                for (int i = 0; i < n; i++) {
                    net.year(this);
                }
                return net.clock;
            });
        }

        int undo() {
            if (steps.isEmpty()) {
                return -1;
            }
            net = steps.removeLast().copy();
            return steps.size();
        }

        int values(int a, int b, int c, int i) {
            if (!r(a, b) || c < 0 || c > 2) {
                return -2;
            }
            List<Dot> dots = net.states[a].of(b, c);
            return i == -1 ? dots.size() : i < 0 || i >= dots.size() ? -2 : net.states[a].entries.get(dots.get(i))[2];
        }

        int entry(int a, int i, int what) {
            if (!r(a)) {
                return -2;
            }
            List<Dot> dots = net.states[a].of(-1, -1);
            if (i == -1) {
                return dots.size();
            }
            if (i < 0 || i >= dots.size() || what < 0 || what > 4) {
                return -2;
            }
            Dot d = dots.get(i);
            return what == 0 ? d.replica : what == 1 ? d.number : net.states[a].entries.get(d)[what - 2];
        }

        int context(int a, int b) {
            return r(a, b) ? net.states[a].vector(b) : -1;
        }

        int cloud(int a, int b, int i, int what) {
            State s = pair(a, b) ? net.would(a, b) : null;
            if (s == null) {
                return -2;
            }
            List<Dot> dots = s.cloud();
            if (i == -1) {
                return dots.size();
            }
            return i < 0 || i >= dots.size() || what < 0 || what > 1 ? -2 : what == 0 ? dots.get(i).replica : dots.get(i).number;
        }

        boolean knows(int a, int b, int n) {
            return r(a, b) && net.states[a].known.contains(new Dot(b, n));
        }

        int delta(int a, int i, int what) {
            if (!r(a)) {
                return -2;
            }
            int dropped = net.dropped[a], kept = net.deltas.get(a).size() - dropped;
            if (i == -1) {
                return kept;
            }
            if (i < 0 || i >= kept || what < 0 || what > 2) {
                return -2;
            }
            State s = net.deltas.get(a).get(dropped + i);
            return what == 0 ? dropped + i + 1 : what == 1 ? s.entries.size() : s.known.size();
        }

        int of(int a, int what) {
            if (!r(a) || what < 0 || what > 3) {
                return -2;
            }
            int bits = 0;
            for (int[] v : net.states[a].entries.values()) {
                bits |= 1 << v[0];
            }
            return new int[] {net.deltas.get(a).size(), net.dropped[a], bits, net.states[a].known.size()}[what];
        }

        int acked(int a, int b) {
            return pair(a, b) ? net.acked[a][b] : -1;
        }

        int flight(int i, int what) {
            List<Message> list = net.inOrder();
            if (i == -1) {
                return list.size();
            }
            if (i < 0 || i >= list.size() || what < 0 || what > 6) {
                return -2;
            }
            Message m = list.get(i);
            return new int[] {m.from, m.to, m.at, m.answer ? 1 : 0, m.upTo, m.state.entries.size(), m.state.known.size()}[what];
        }

        int is(int what) {
            return what < 0 || what > 3 ? -2 : new int[] {net.clock, net.x, net.sent, net.lost}[what];
        }

        int book(int i, int what) {
            if (i == -1) {
                return net.book.size();
            }
            return i < 0 || i >= net.book.size() || what < 0 || what > 3 ? -2 : net.book.get(i)[what];
        }

        int foretold(int n, int a) {
            if (n < 1 || n > 12 || !r(a)) {
                return -1;
            }
            Net trial = net.copy();
            for (int i = 0; i < n && trial.clock < 9999; i++) {
                trial.tick(this);
            }
            return trial.states[a].digest();
        }

        int need(int a, int b) {
            if (!pair(a, b) || net.would(a, b) == null) {
                return -1;
            }
            return net.dropped[a] > net.acked[a][b] ? 0 : net.deltas.get(a).size() - net.acked[a][b];
        }

        int would(int a, int b, int what) {
            State s = pair(a, b) ? net.would(a, b) : null;
            return s == null || what < 0 || what > 1 ? -1 : what == 0 ? s.entries.size() : s.known.size();
        }

        int digest(int a) {
            return r(a) ? net.states[a].digest() : -1;
        }

        boolean same(int a, int b) {
            return r(a, b) && net.states[a].alike(net.states[b]);
        }

        boolean below(int a, int b) {
            return r(a, b) && net.states[a].join(net.states[b]).alike(net.states[b]);
        }

        static int told(State s, int what) {
            return what == 0 ? s.entries.size() : what == 1 ? s.known.size() : what == 2 ? s.digest() : -1;
        }

        int join(int a, int b, int what) {
            return r(a, b) ? told(net.states[a].join(net.states[b]), what) : -1;
        }

        int all(int what) {
            return told(net.all(), what);
        }

        int parts(int a) {
            return r(a) ? net.states[a].known.size() : -1;
        }

        int unlike(int a, int b) {
            if (!r(a, b)) {
                return -1;
            }
            int n = 0;
            for (Dot d : net.states[a].known) {
                boolean unknown = !net.states[b].known.contains(d);
                if (net.states[a].entries.containsKey(d) ? unknown : unknown || net.states[b].entries.containsKey(d)) {
                    n++;
                }
            }
            return n;
        }

        int spared(int a, int key) {
            if (!r(a, key)) {
                return -1;
            }
            Net n = net.copy();
            n.states[a] = n.states[a].withReset(key);
            return n.all().of(key, -1).size();
        }

        int winner(int a, int b, int c) {
            if (!r(a, b) || c < 0 || c > 2) {
                return -1;
            }
            Dot best = null;
            for (Dot d : net.states[a].of(b, c)) {
                if (best == null || d.number >= best.number) {
                    best = d;
                }
            }
            return best == null ? -1 : net.states[a].entries.get(best)[2];
        }

        int torn(int a) {
            if (!r(a)) {
                return -1;
            }
            int n = 0;
            for (int key = 0; key < 4; key++) {
                for (int field = 0; field < 3; field++) {
                    n += net.states[a].of(key, field).size() > 1 ? 1 : 0;
                }
            }
            return n;
        }

        int fields(int a, int key) {
            if (!r(a, key)) {
                return -1;
            }
            int bits = 0;
            for (Dot d : net.states[a].of(key, -1)) {
                bits |= 1 << net.states[a].entries.get(d)[1];
            }
            return bits;
        }

        int sum(int a, int key) {
            if (!r(a, key)) {
                return -1;
            }
            int n = 0;
            for (Dot d : net.states[a].of(key, -1)) {
                n += net.states[a].entries.get(d)[2];
            }
            return n;
        }

        int share(int a, int b) {
            if (!r(a, b)) {
                return -1;
            }
            int n = 0;
            for (Dot d : net.states[a].entries.keySet()) {
                n += d.replica == b ? 1 : 0;
            }
            return n;
        }

        int behind(int a) {
            if (!r(a)) {
                return -1;
            }
            TreeSet<Dot> dots = new TreeSet<>(net.all().known);
            dots.removeAll(net.states[a].known);
            return dots.size();
        }

        int freshest() {
            int best = 3;
            for (int i = 3; i >= 0; i--) {
                best = net.states[i].known.size() >= net.states[best].known.size() ? i : best;
            }
            return best;
        }

        boolean quiet() {
            return net.quiet();
        }

        int till() {
            Net trial = net.copy();
            int n = 0;
            while (n <= 60 && !trial.quiet()) {
                trial.tick(this);
                n++;
            }
            return n > 60 ? -1 : n;
        }

        boolean speaks(int a, int b) {
            return pair(a, b) && net.would(a, b) != null && lets(ruling, net, a, b, net.deltas.get(a).size() - net.acked[a][b]);
        }

        int said(int a, int b, int c, int d) {
            if (a == -1) {
                said.clear();
                return 0;
            }
            if (!pair(a, b) || c < 0 || c > 99 || d < 0 || d > 1 || said.size() == 8) {
                return -2;
            }
            said.add(new int[] {a, b, c, d});
            return said.size();
        }

        int whose() {
            int bits = 0;
            for (int t = 0; t < texts.size(); t++) {
                boolean fits = true;
                for (int[] s : said) {
                    fits &= lets(t, net, s[0], s[1], s[2]) == (s[3] == 1);
                }
                bits |= fits ? 1 << t : 0;
            }
            return bits;
        }

        int ledger(int what) {
            if (what < 0 || what > 4) {
                return -2;
            }
            int n = 0;
            for (int[] line : net.book) {
                n += line[1] == what ? 1 : 0;
            }
            return n;
        }

        int image() {
            image.take(this);
            return net.clock;
        }

        int back() {
            take(image);
            return net.clock;
        }

        int about(int what) {
            return what < 0 || what > 5 ? -2
                : new int[] {texts.size(), ruling, steps.size(), said.size(), tape.length, delay}[what];
        }
    }
}
