/** A test for each sentence of the document's promises that names an edge, or how a call is refused. */
public final class EdgesTest extends Checks {
    public static void main(String[] args) throws Exception {
        Document.hold(EdgesTest.class, "Promise \\d+", "NONE|-2|[Ff]alse|beyond|others|\\d+");
    }

    private static final int[] REPLICA = {0, 3};
    private static final int[] KEY = {0, 3};
    private static final int[] FIELD = {0, 2};

    private static int[] ints(int... all) {
        return all;
    }

    @Says(in = "Promise 1", that = "Four empty replicas; THE IMAGE is this.")
    static void p01() {
        DeltaNests x = new DeltaNests();
        String made = brief(x);
        for (int r = 0; r < 4; r++) {
            due("empty", x.entry(r, NONE, 0) + x.parts(r) + x.delta(r, NONE, 0), 0);
        }
        due("no fifth", x.of(4, 0), -2);
        x.years(9, 24);
        x.delay(9);
        read(x, "loses 0;");
        x.by(0);
        due("back", x.back(), 0);
        due("as it was made", brief(x), made);
        x.years(9, 24);
        DeltaNests y = new DeltaNests();
        due("another one is not this", brief(y), made);
    }

    private static void due(String what, String got, String want) {
        due(what + ": " + got + " for " + want, got.equals(want), true);
    }

    @Says(in = "Promise 2", that = "Twenty bytes come behind the tape, the highest of a first: how many it has.")
    static void p02inOrder() {
        DeltaNests x = new DeltaNests();
        // Twenty days of which just the last byte is none.
        due("twenty", x.feed(0x64617920, 0x313b2020, 0x20202020, 0x64617920, 0x323b2021), 20);
        due("a fault", x.text(), NONE);
        due("at the last byte", x.fault(1), 19);
        for (int at = 0; at < 20; at++) {
            int[] w = {0x20202020, 0x20202020, 0x20202020, 0x20202020, 0x20202020};
            w[at / 4] = w[at / 4] & ~(255 << 24 - at % 4 * 8) | 0xff << 24 - at % 4 * 8;
            x.feed(w[0], w[1], w[2], w[3], w[4]);
            x.text();
            due("at its byte", x.fault(1), at);
        }
        due("behind what is there", x.feed(0, 0, 0, 0, 0), 20);
        x.end(1);
        due("behind what is left", x.feed(0, 0, 0, 0, 0), 21);
    }

    @Says(in = "Promise 2", that = "NONE, and none come, if there would be more than 300.")
    static void p02full() {
        DeltaNests x = new DeltaNests();
        for (int i = 1; i <= 15; i++) {
            due("room", x.feed(MAX, MAX, MAX, MAX, MAX), 20 * i);
        }
        for (int length : new int[] {300, 299, 290, 281}) {
            due("cut", x.end(length), length);
            refused(x, "feed", NONE, ints(0, 0, 0, 0, 0));
        }
        x.end(280);
        due("just 300", x.feed(MIN, MIN, MIN, MIN, MIN), 300);
        due("none came before", x.text(), NONE);
        due("it is the first byte that is none", x.fault(1), 0);
    }

    @Says(in = "Promise 3", that = "The tape has its first n bytes alone: n. NONE, and nothing is done, if it has not so many, or n is below 0.")
    static void p03() {
        DeltaNests x = new DeltaNests();
        refused(x, "end", NONE, ints(1), ints(-1), ints(MIN), ints(MAX), ints(300));
        due("none of none", x.end(0), 0);
        x.feed(0x64617920, 0x313b2121, 0, 0, 0);
        refused(x, "end", NONE, ints(21), ints(-1), ints(MIN), ints(MAX));
        due("all", x.end(20), 20);
        due("fewer", x.end(6), 6);
        refused(x, "end", NONE, ints(7), ints(20));
        due("the first", x.text(), 0);
        refused(x, "end", NONE, ints(1));
        for (int i = 0; i < 15; i++) {
            x.feed(0, 0, 0, 0, 0);
        }
        refused(x, "end", NONE, ints(301));
        due("300", x.end(300), 300);
        due("0", x.end(0), 0);
        due("empty", x.about(4), 0);
        // What is cut off is not read, nor what was there before.
        DeltaNests y = new DeltaNests();
        String text = "day 12;day 5;";
        for (int n = 1; n <= 6; n++) {
            tape(y, text);
            y.end(n);
            due("cut", y.text(), NONE);
            due("place", y.fault(1), n < 3 ? 0 : n);
        }
        tape(y, text);
        y.end(7);
        due("a whole clause", y.text(), 0);
        y.played(0);
        due("twelve alone", y.is(0), 12);
        tape(y, text);
        y.end(5);
        y.feed(0x3b202020, 0x20202020, 0x20202020, 0x20202020, 0x20202020);
        due("other bytes behind", y.text(), 1);
        y.played(1);
        due("one more", y.is(0), 13);
    }

    @Says(in = "Promise 4", that = "The tape (empty then) is a TEXT: its number. NONE: it has a FAULT; or (the tape stays) there are 4.")
    static void p04() {
        DeltaNests x = new DeltaNests();
        due("an empty tape is a text", x.text(), 0);
        due("with a fault", read(x, "day 1"), NONE);
        due("empty then", x.about(4), 0);
        due("no text", x.about(0), 1);
        due("read", read(x, "day 1;"), 1);
        due("empty then", x.about(4), 0);
        due("read", read(x, "day 2;"), 2);
        due("with a fault", read(x, "x"), NONE);
        due("the fourth", read(x, "day 3;"), 3);
        tape(x, "day 4;");
        refused(x, "text", NONE, ints());
        due("the tape stays", x.about(4), 6);
        due("nothing was read", x.fault(0), 0);
        tape(x, "day");
        refused(x, "text", NONE, ints());
        due("nor its fault", x.fault(0), 0);
        x.back();
        due("the tape is a text then", x.text(), NONE);
        due("its fault", x.fault(1), 3);
    }

    @Says(in = "Promise 5", that = "Of the latest text that was read: 0 its FAULT (0 without), 1 its place (NONE without). NONE for others, and ahead of any.")
    static void p05() {
        DeltaNests x = new DeltaNests();
        due("ahead of any", x.fault(0) + x.fault(1), -2);
        tape(x, "day");
        due("fed is not read", x.fault(0), NONE);
        x.text();
        due("fault", x.fault(0), 1);
        due("place", x.fault(1), 3);
        refused(x, "fault", NONE, ints(-1), ints(2), ints(MIN), ints(MAX));
        x.text();
        due("the latest is empty: without", x.fault(0), 0);
        due("without", x.fault(1), NONE);
        refused(x, "fault", NONE, ints(-1), ints(2));
        x.set(0, 0, 0, 0);
        x.undo();
        x.image();
        read(x, "day 13;");
        x.back();
        due("the latest", x.fault(0) * 10 + x.fault(1), 24);
    }

    @Says(in = "Promise 6", that = "THE TEXT (NONE: none): true. False for others.")
    static void p06() {
        DeltaNests x = new DeltaNests();
        due("none", x.by(NONE), true);
        refused(x, "by", 0, ints(0), ints(-2), ints(MIN), ints(MAX), ints(4));
        read(x, "loses 0;");
        due("the first", x.by(0), true);
        refused(x, "by", 0, ints(1), ints(-2));
        due("it stays", x.about(1), 0);
        read(x, "loses 0;");
        read(x, "loses 0;");
        read(x, "loses 0;");
        due("the last", x.by(3), true);
        refused(x, "by", 0, ints(4), ints(-2), ints(MIN), ints(MAX));
        due("none", x.by(NONE), true);
        due("none", x.about(1), NONE);
        x.by(2);
        x.back();
        refused(x, "by", 0, ints(0), ints(2));
    }

    @Says(in = "Promise 7", that = "DELAY told: true. False for others (1 .. 9).")
    static void p07() {
        DeltaNests x = new DeltaNests();
        refused(x, "delay", 0, ints(0), ints(10), ints(-1), ints(MIN), ints(MAX));
        for (int n = 1; n <= 9; n++) {
            due("told", x.delay(n), true);
            due("delay", x.about(5), n);
        }
        refused(x, "delay", 0, ints(0), ints(10), ints(-1), ints(MIN), ints(MAX));
    }

    @Says(in = "Promise 8", that = "SET: the DOT's number. NONE for others (0 .. 99), and beyond 63.")
    static void p08() {
        edges(new DeltaNests(), "set", NONE, ints(1, 1, 1, 1), REPLICA, KEY, FIELD, ints(0, 99));
        DeltaNests x = full();
        due("the next one", x.set(2, 0, 0, 0), 14);
        for (int n = 15; n <= 63; n++) {
            due("the next one", x.set(2, n % 4, n % 3, n), n);
        }
        refused(x, "set", NONE, ints(2, 0, 0, 0), ints(2, 3, 2, 99));
        due("another's", x.set(1, 0, 0, 0), 14);
    }

    @Says(in = "Promise 9", that = "CLEARED: how many ENTRIES are gone. NONE: there is none, and for others.")
    static void p09() {
        DeltaNests x = full();
        edges(x, "clear", NONE, ints(1, 1, 1), REPLICA, KEY, FIELD);
        refused(x, "clear", NONE, ints(0, 1, 1), ints(3, 1, 1), ints(1, 0, 1), ints(1, 3, 1), ints(1, 1, 0), ints(1, 1, 2));
        due("four", x.clear(2, 0, 0), 4);
        due("one", x.clear(2, 3, 2), 1);
        refused(new DeltaNests(), "clear", NONE, ints(0, 0, 0), ints(3, 3, 2));
    }

    @Says(in = "Promise 10", that = "RESET: how many ENTRIES are gone. NONE: there is none, and for others.")
    static void p10() {
        DeltaNests x = full();
        edges(x, "reset", NONE, ints(1, 1), REPLICA, KEY);
        refused(x, "reset", NONE, ints(0, 1), ints(3, 1), ints(1, 0), ints(1, 3));
        due("twelve", x.reset(2, 0), 12);
        due("nine", x.reset(2, 3), 9);
        refused(new DeltaNests(), "reset", NONE, ints(0, 0), ints(3, 3));
    }

    @Says(in = "Promise 11", that = "SENT: up to which DELTA. NONE: there is nothing to send, and for others (unlike REPLICAS).")
    static void p11() {
        DeltaNests x = full();
        edges(x, "send", NONE, ints(1, 2), REPLICA, REPLICA);
        unlikeOnes(x, "send", NONE);
        due("up to the latest", x.send(3, 0), 16);
        DeltaNests y = lossless();
        refused(y, "send", NONE, ints(0, 1), ints(3, 2));
        y.set(0, 0, 0, 0);
        refused(y, "send", NONE, ints(1, 0), ints(2, 3));
        due("one", y.send(0, 3), 1);
        y.day(4);
        refused(y, "send", NONE, ints(0, 3));
    }

    @Says(in = "Promise 12", that = "TICKS pass (1 .. 12): how many MESSAGES came in them. NONE for others, or beyond 9999 (nothing is done then).")
    static void p12() {
        DeltaNests x = full();
        edges(x, "day", NONE, 1, 1, 12);
        due("clock", x.is(0), 17);
        DeltaNests y = lossless();
        pass(y, 9990);
        y.set(0, 0, 0, 0);
        y.delay(9);
        y.send(0, 1);
        refused(y, "day", NONE, ints(10), ints(11), ints(12), ints(13), ints(0));
        due("just up to it", y.day(9), 1);
        due("clock", y.is(0), 9999);
        refused(y, "day", NONE, ints(1), ints(2), ints(3), ints(4), ints(5), ints(6), ints(7), ints(8), ints(9), ints(10), ints(11), ints(12));
        y.undo();
        due("taken back", y.is(0), 9998);
        refused(y, "day", NONE, ints(2));
        due("once more", y.day(1), 1);
    }

    @Says(in = "Promise 13", that = "PLAYED by a TEXT: NONE: all is done; else the number of the CLAUSE that can't be. -2 for others.")
    static void p13() {
        DeltaNests x = new DeltaNests();
        refused(x, "played", -2, ints(0), ints(-1), ints(-2), ints(4), ints(MIN), ints(MAX));
        for (int text = 0; text < 4; text++) {
            refused(x, "played", -2, ints(text));
            due("read", read(x, "day 1;".repeat(text) + "reset 0 at 0;"), text);
            due("the last can't be", x.played(text), text);
        }
        refused(x, "played", -2, ints(-1), ints(4), ints(MIN), ints(MAX));
        x.set(0, 0, 0, 0);
        due("all is done", x.played(3), NONE);
        due("clock", x.is(0), 9);
    }

    @Says(in = "Promise 14", that = "YEARS: CLOCK. NONE for others.")
    static void p14() {
        DeltaNests x = full();
        edges(x, "years", NONE, ints(5, 5), ints(0, 9999), ints(1, 24));
        due("clock", x.years(3, 24), x.is(0));
    }

    @Says(in = "Promise 15", that = "The latest STEP is taken back: how many can be yet. NONE: there is none.")
    static void p15() {
        DeltaNests x = new DeltaNests();
        refused(x, "undo", NONE, ints());
        x.set(0, 0, 0, 0);
        due("none yet", x.undo(), 0);
        refused(x, "undo", NONE, ints());
        for (int i = 0; i < 35; i++) {
            x.day(1);
        }
        for (int left = 29; left >= 0; left--) {
            due("yet", x.undo(), left);
        }
        refused(x, "undo", NONE, ints());
        due("clock", x.is(0), 5);
    }

    @Says(in = "Promise 16", that = "VALUES: how many (i NONE); the i-th of them, by their DOTS. -2 if there is none such, and for others.")
    static void p16() {
        DeltaNests x = full();
        edges(x, "values", -2, ints(1, 1, 1, 0), REPLICA, KEY, FIELD, ints(0, 3, -2));
        x = full();
        edges(x, "values", -2, ints(1, 1, 1, NONE), REPLICA, KEY, FIELD, ints(NONE, 3));
        due("many", x.values(1, 1, 1, NONE), 4);
        for (int i = 0; i < 4; i++) {
            due("by their dots", x.values(1, 1, 1, i), 20 + i);
        }
        due("one", x.values(1, 3, 2, NONE), 1);
        refused(x, "values", -2, ints(1, 3, 2, 1));
        refused(new DeltaNests(), "values", -2, ints(0, 0, 0, 0));
        due("none", new DeltaNests().values(0, 0, 0, NONE), 0);
    }

    @Says(in = "Promise 17", that = "ENTRIES by their DOTS: how many (i NONE); the i-th: 0 the REPLICA, 1 the number of its DOT, 2 KEY, 3 FIELD, 4 VALUE."
        + " -2 if there is none such, and for others.")
    static void p17() {
        DeltaNests x = full();
        edges(x, "entry", -2, ints(1, 0, 0), REPLICA, ints(0, 44, -2), ints(0, 4));
        due("many", x.entry(1, NONE, 0), 45);
        int[] last = {3, 11, 2, 2, 43};
        for (int what = 0; what < 5; what++) {
            due("the last", x.entry(1, 44, what), last[what]);
        }
        refused(x, "entry", -2, ints(-1, NONE, 0), ints(4, NONE, 0), ints(1, 45, 4), ints(1, 44, 5), ints(1, 45, -1));
        due("none", new DeltaNests().entry(0, NONE, 0), 0);
        refused(new DeltaNests(), "entry", -2, ints(0, 0, 0));
    }

    @Says(in = "Promise 18", that = "THE VECTOR: up to which number. NONE for others.")
    static void p18() {
        DeltaNests x = full();
        edges(x, "context", NONE, ints(1, 1), REPLICA, REPLICA);
        for (int r = 0; r < 4; r++) {
            for (int of = 0; of < 4; of++) {
                due("up to", x.context(r, of), r == of ? 13 : 12);
            }
        }
        due("0 at first", new DeltaNests().context(0, 3), 0);
    }

    @Says(in = "Promise 19", that = "THE CLOUD of what would be sent now: how many (i NONE); the i-th: 0 the REPLICA, 1 the number."
        + " -2 if there is none such, nothing to send, and for others.")
    static void p19() {
        DeltaNests x = full();
        // Each has set again what its 12th DOT was, by the 13th.
        due("many", x.cloud(1, 2, NONE, 0), 2);
        edges(x, "cloud", -2, ints(1, 2, 0, 0), REPLICA, REPLICA, ints(0, 1, -2), ints(0, 1));
        x = full();
        refused(x, "cloud", -2, ints(-1, 2, NONE, 0), ints(4, 2, NONE, 0), ints(1, -1, NONE, 0), ints(1, 4, NONE, 0));
        unlikeOnes(x, "cloud", -2, NONE, 0);
        unlikeOnes(x, "cloud", -2, 0, 0);
        due("replica", x.cloud(1, 2, 1, 0), 1);
        due("numbers", x.cloud(1, 2, 0, 1) * 100 + x.cloud(1, 2, 1, 1), 1213);
        DeltaNests y = lossless();
        refused(y, "cloud", -2, ints(0, 1, NONE, 0), ints(0, 1, 0, 0));
        y.set(0, 0, 0, 0);
        due("no cloud", y.cloud(0, 1, NONE, 0), 0);
        refused(y, "cloud", -2, ints(0, 1, 0, 0), ints(1, 0, NONE, 0));
        sync(y, 0, 1);
        refused(y, "cloud", -2, ints(0, 1, NONE, 0));
    }

    @Says(in = "Promise 20", that = "Whether a REPLICA KNOWS a DOT. False for others (1 .. 63).")
    static void p20() {
        DeltaNests x = full();
        edges(x, "knows", 0, ints(1, 1, 5), REPLICA, REPLICA, ints(1, 13));
        due("another's 13th", x.knows(1, 2, 13), false);
        DeltaNests y = new DeltaNests();
        for (int n = 1; n <= 63; n++) {
            due("not yet", y.knows(2, 2, n), false);
            y.set(2, 0, 0, 0);
            due("then", y.knows(2, 2, n), true);
        }
        refused(y, "knows", 0, ints(2, 2, 0), ints(2, 2, 64), ints(2, 2, 65), ints(2, 2, 127), ints(2, 2, 128), ints(2, 2, -1), ints(2, 2, -63),
            ints(2, 2, MIN), ints(2, 2, MAX), ints(2, 2, MIN + 1), ints(2, 3, 1), ints(1, 2, 1));
    }

    @Says(in = "Promise 21", that = "DELTAS that are kept: how many (i NONE); the i-th from the eldest on: 0 its number, 1 how many ENTRIES,"
        + " 2 how many DOTS it KNOWS. -2 if there is none such, and for others.")
    static void p21() {
        DeltaNests x = full();
        due("kept", x.delta(1, NONE, 0), 4);
        edges(x, "delta", -2, ints(1, 0, 0), REPLICA, ints(0, 3, -2), ints(0, 2));
        int[] latest = {16, 1, 5};
        for (int what = 0; what < 3; what++) {
            due("the latest", x.delta(1, 3, what), latest[what]);
        }
        due("the eldest", x.delta(1, 0, 0), 13);
        due("that came", x.delta(1, 0, 1) * 100 + x.delta(1, 0, 2), 1212);
        for (int i = 0; i < 10; i++) {
            x.set(1, 0, 0, 0);
        }
        due("six", x.delta(1, NONE, 0), 6);
        due("the sixth", x.delta(1, 5, 0), 26);
        refused(x, "delta", -2, ints(1, 6, 0), ints(-1, NONE, 0), ints(4, NONE, 0), ints(1, 5, 3), ints(1, 5, -1));
        refused(new DeltaNests(), "delta", -2, ints(0, 0, 0), ints(3, 0, 2));
        due("none", new DeltaNests().delta(3, NONE, 0), 0);
    }

    @Says(in = "Promise 22", that = "Of a REPLICA: 0 how many DELTAS there were, 1 how many are dropped, 2 KEYS it has (bits), 3 how many DOTS it KNOWS. -2 for others.")
    static void p22() {
        DeltaNests x = full();
        edges(x, "of", -2, ints(1, 0), REPLICA, ints(0, 3));
        int[] all = {16, 12, 15, 49};
        for (int what = 0; what < 4; what++) {
            due("of", x.of(1, what), all[what]);
        }
        for (int key = 3; key >= 0; key--) {
            x.reset(1, key);
            due("keys", x.of(1, 2), (1 << key) - 1);
        }
        due("dots are known yet", x.of(1, 3), 49);
    }

    @Says(in = "Promise 23", that = "ACKED: up to which DELTA. NONE for others (unlike ones).")
    static void p23() {
        DeltaNests x = full();
        edges(x, "acked", NONE, ints(1, 2), REPLICA, REPLICA);
        unlikeOnes(x, "acked", NONE);
        due("up to", x.acked(1, 2), 12);
        due("0 at first", new DeltaNests().acked(1, 2), 0);
        x.day(4);
        due("up to", x.acked(1, 2), 16);
        due("another's", x.acked(2, 1), 12);
    }

    @Says(in = "Promise 24", that = "IN FLIGHT in the order in which they come: how many (i NONE); the i-th: 0 from, 1 to, 2 the CLOCK at which it comes,"
        + " 3 whether it is an answer (1, 0), 4 up to which DELTA, 5 how many ENTRIES, 6 how many DOTS it KNOWS. -2 if there is none such, and for others.")
    static void p24() {
        DeltaNests x = full();
        edges(x, "flight", -2, ints(0, 0), ints(0, 0, -2), ints(0, 6));
        int[] first = {1, 2, 6, 0, 16, 34, 38};
        for (int what = 0; what < 7; what++) {
            due("the first", x.flight(0, what), first[what]);
        }
        x.day(2);
        int[] answer = {2, 1, 8, 1, 16, 0, 0};
        for (int what = 0; what < 7; what++) {
            due("its answer", x.flight(0, what), answer[what]);
        }
        for (int i = 2; i <= 24; i++) {
            x.send(1, 0);
            due("many", x.flight(NONE, 0), i);
        }
        edges(x, "flight", -2, ints(5, 5), ints(0, 23, -2), ints(0, 6));
        refused(new DeltaNests(), "flight", -2, ints(0, 0), ints(-2, 0));
        due("none", new DeltaNests().flight(NONE, 0), 0);
    }

    @Says(in = "Promise 25", that = "0 CLOCK, 1 X, 2 how many were sent, 3 how many were lost. -2 for others.")
    static void p25() {
        edges(full(), "is", -2, 1, 0, 3);
        edges(new DeltaNests(), "is", -2, 1, 0, 3);
    }

    @Says(in = "Promise 26", that = "BOOK: how many (i NONE); the i-th, from the eldest on: 0 CLOCK, 1 what (0 set, 1 cleared, 2 reset, 3 lost, 4 came),"
        + " 2 the REPLICA (of lost, came: to which), 3 the KEY (of lost, came: from which). -2 if there is none such, and for others.")
    static void p26() {
        DeltaNests x = full();
        due("many", x.book(NONE, 0), 25);
        edges(x, "book", -2, ints(3, 1), ints(0, 24, -2), ints(0, 3));
        DeltaNests y = under("loses if clock < 3 then 0 else 10 end;");
        refused(y, "book", -2, ints(0, 0));
        y.day(1);
        y.set(3, 2, 1, 0);
        y.clear(3, 2, 1);
        y.set(0, 1, 2, 0);
        y.reset(0, 1);
        y.send(0, 3);
        y.day(2);
        int[][] rows = {{1, 0, 3, 2}, {1, 1, 3, 2}, {1, 0, 0, 1}, {1, 2, 0, 1}, {3, 4, 3, 0}, {3, 3, 0, 3}};
        due("many", y.book(NONE, 0), rows.length);
        for (int i = 0; i < rows.length; i++) {
            for (int what = 0; what < 4; what++) {
                due("line " + i + " " + what, y.book(i, what), rows[i][what]);
            }
        }
        edges(y, "book", -2, ints(3, 1), ints(0, 5, -2), ints(0, 3));
    }

    @Says(in = "Promise 27", that = "FORETOLD: THE DIGEST of a REPLICA. NONE for others.")
    static void p27() {
        DeltaNests x = full();
        edges(x, "foretold", NONE, ints(1, 1), ints(1, 12), REPLICA);
        int[] digests = new int[4];
        for (int r = 0; r < 4; r++) {
            digests[r] = x.foretold(2, r);
        }
        x.day(2);
        for (int r = 0; r < 4; r++) {
            due("so it is", x.digest(r), digests[r]);
        }
    }

    @Says(in = "Promise 28", that = "NEEDED: how many DELTAS would be sent (0: all it has). NONE: nothing, and for others.")
    static void p28() {
        DeltaNests x = full();
        edges(x, "need", NONE, ints(1, 2), REPLICA, REPLICA);
        unlikeOnes(x, "need", NONE);
        due("deltas", x.need(1, 2), 4);
        x.set(1, 0, 0, 0);
        x.set(1, 0, 0, 0);
        due("six", x.need(1, 2), 6);
        x.set(1, 0, 0, 0);
        due("all it has", x.need(1, 2), 0);
        x.send(1, 2);
        x.day(4);
        refused(x, "need", NONE, ints(1, 2));
        refused(new DeltaNests(), "need", NONE, ints(0, 1), ints(3, 2));
    }

    @Says(in = "Promise 29", that = "WHAT WOULD BE SENT: 0 how many ENTRIES, 1 how many DOTS it KNOWS. NONE: nothing, and for others.")
    static void p29() {
        DeltaNests x = full();
        edges(x, "would", NONE, ints(1, 2, 0), REPLICA, REPLICA, ints(0, 1));
        unlikeOnes(x, "would", NONE, 0);
        due("entries", x.would(1, 2, 0), 34);
        due("dots", x.would(1, 2, 1), 38);
        refused(new DeltaNests(), "would", NONE, ints(0, 1, 0), ints(3, 2, 1));
        DeltaNests y = lossless();
        y.set(0, 0, 0, 0);
        y.clear(0, 0, 0);
        due("no entries", y.would(0, 1, 0), 0);
        sync(y, 0, 1);
        refused(y, "would", NONE, ints(0, 1, 0), ints(0, 1, 1));
    }

    @Says(in = "Promise 30", that = "THE DIGEST. NONE for others.")
    static void p30() {
        edges(full(), "digest", NONE, 1, 0, 3);
        edges(new DeltaNests(), "digest", NONE, 1, 0, 3);
    }

    @Says(in = "Promise 31", that = "ALIKE. False for others.")
    static void p31() {
        edges(alikeOnes(), "same", 0, ints(1, 2), REPLICA, REPLICA);
        edges(new DeltaNests(), "same", 0, ints(1, 2), REPLICA, REPLICA);
        refused(new DeltaNests(), "same", 0, ints(-1, -1), ints(4, 4), ints(MIN, MIN));
        DeltaNests x = full();
        due("unlike", x.same(1, 2), false);
        due("itself", x.same(3, 3), true);
    }

    @Says(in = "Promise 32", that = "BELOW. False for others.")
    static void p32() {
        edges(alikeOnes(), "below", 0, ints(1, 2), REPLICA, REPLICA);
        edges(new DeltaNests(), "below", 0, ints(1, 2), REPLICA, REPLICA);
        refused(new DeltaNests(), "below", 0, ints(-1, -1), ints(4, 4), ints(MIN, MIN));
        DeltaNests x = full();
        due("neither", x.below(1, 2) || x.below(2, 1), false);
        x.day(2);
        due("what came to it", x.below(1, 2), true);
        due("not around", x.below(2, 1), false);
    }

    @Says(in = "Promise 33", that = "A JOIN: 0 how many ENTRIES, 1 how many DOTS it KNOWS, 2 THE DIGEST. NONE for others.")
    static void p33() {
        DeltaNests x = full();
        edges(x, "join", NONE, ints(1, 2, 0), REPLICA, REPLICA, ints(0, 2));
        due("entries", x.join(1, 2, 0), 46);
        due("dots", x.join(1, 2, 1), 50);
        due("either way", x.join(1, 2, 2), x.join(2, 1, 2));
        due("of one and itself", x.join(2, 2, 2), x.digest(2));
        refused(new DeltaNests(), "join", NONE, ints(0, 0, 3), ints(0, 0, -1), ints(4, 4, 0), ints(-1, -1, 0));
    }

    @Says(in = "Promise 34", that = "ALL JOINED: likewise.")
    static void p34() {
        DeltaNests x = full();
        edges(x, "all", NONE, 1, 0, 2);
        due("entries", x.all(0), 48);
        due("dots", x.all(1), 52);
        due("of nothing", new DeltaNests().all(2), 0);
    }

    @Says(in = "Promise 35", that = "PARTS. NONE for others.")
    static void p35() {
        DeltaNests x = full();
        edges(x, "parts", NONE, 1, 0, 3);
        due("entries and gone ones", x.parts(3), 49);
        x.reset(3, 3);
        due("as many", x.parts(3), 49);
    }

    @Says(in = "Promise 36", that = "THE DIFFERENCE: how many PARTS. NONE for others.")
    static void p36() {
        DeltaNests x = full();
        edges(x, "unlike", NONE, ints(1, 2), REPLICA, REPLICA);
        due("the new entry alone: what it took away, 2 took away, too", x.unlike(1, 2), 1);
        x.reset(1, 0);
        due("and twelve that are gone", x.unlike(1, 2), 13);
        due("from itself", x.unlike(2, 2), 0);
    }

    @Says(in = "Promise 37", that = "SPARED: how many ENTRIES. NONE for others.")
    static void p37() {
        DeltaNests x = full();
        edges(x, "spared", NONE, ints(1, 1), REPLICA, KEY);
        due("what three others have set", x.spared(1, 3), 3);
        due("none", x.spared(1, 2), 0);
    }

    @Says(in = "Promise 38", that = "THE WINNER: the VALUE. NONE: none, and for others.")
    static void p38() {
        DeltaNests x = full();
        edges(x, "winner", NONE, ints(1, 1, 1), REPLICA, KEY, FIELD);
        due("of like numbers 3's", x.winner(1, 1, 1), 23);
        x.clear(1, 1, 1);
        refused(x, "winner", NONE, ints(1, 1, 1));
        refused(new DeltaNests(), "winner", NONE, ints(0, 0, 0), ints(3, 3, 2));
    }

    @Says(in = "Promise 39", that = "TORN: how many. NONE for others.")
    static void p39() {
        DeltaNests x = full();
        edges(x, "torn", NONE, 1, 0, 3);
        due("eleven", x.torn(2), 11);
        edges(new DeltaNests(), "torn", NONE, 1, 0, 3);
    }

    @Says(in = "Promise 40", that = "FIELDS of a KEY that have ENTRIES (bits). NONE for others.")
    static void p40() {
        DeltaNests x = full();
        edges(x, "fields", NONE, ints(1, 1), REPLICA, KEY);
        for (int field = 2; field >= 0; field--) {
            due("those below", x.fields(1, 1), (2 << field) - 1);
            x.clear(1, 1, field);
        }
        due("none", x.fields(1, 1), 0);
    }

    @Says(in = "Promise 41", that = "VALUES of a KEY together. NONE for others.")
    static void p41() {
        DeltaNests x = full();
        edges(x, "sum", NONE, ints(1, 1), REPLICA, KEY);
        due("twelve", x.sum(1, 1), 4 + 5 + 6 + 7 + 20 + 21 + 22 + 23 + 36 + 37 + 38 + 39);
        x.reset(1, 1);
        due("none", x.sum(1, 1), 0);
    }

    @Says(in = "Promise 42", that = "A SHARE. NONE for others.")
    static void p42() {
        DeltaNests x = full();
        edges(x, "share", NONE, ints(1, 1), REPLICA, REPLICA);
        due("its own", x.share(1, 1), 12);
        due("another's", x.share(1, 3), 11);
        due("none", new DeltaNests().share(0, 3), 0);
    }

    @Says(in = "Promise 43", that = "BEHIND: how many DOTS. NONE for others.")
    static void p43() {
        DeltaNests x = full();
        edges(x, "behind", NONE, 1, 0, 3);
        due("those of three others", x.behind(1), 3);
        x.day(2);
        due("one came", x.behind(2), 2);
        edges(new DeltaNests(), "behind", NONE, 1, 0, 3);
    }

    @Says(in = "Promise 44", that = "FRESHEST.")
    static void p44() {
        DeltaNests x = full();
        due("of like ones", x.freshest(), 0);
        x.day(2);
        due("to whom one more came", x.freshest(), 2);
    }

    @Says(in = "Promise 45", that = "QUIET.")
    static void p45() {
        due("at first", new DeltaNests().quiet(), true);
        DeltaNests x = full();
        due("in flight, and to send", x.quiet(), false);
        x.day(12);
        due("to send", x.quiet(), false);
    }

    @Says(in = "Promise 46", that = "TILL QUIET: TICKS. NONE: not by 60.")
    static void p46() {
        DeltaNests x = alikeOnes();
        due("nobody speaks", x.till(), NONE);
        int text = read(x, "loses 0;speaks behind;");
        x.by(text);
        due("two ticks to come, two to be acked, what was sent again one later", x.till(), 6);
        x.day(5);
        due("not yet", x.quiet(), false);
        due("not yet", x.till(), 1);
        x.day(1);
        due("it is", x.till(), 0);
        x.set(0, 0, 0, 0);
        due("some ticks", x.till() > 0, true);
        x.by(NONE);
        due("nobody speaks", x.till(), NONE);
    }

    @Says(in = "Promise 47", that = "Whether speaks has it sent now (there being something to send). False for others.")
    static void p47() {
        DeltaNests x = full();
        due("without a law", x.speaks(1, 2), false);
        x.by(read(x, "speaks 1;"));
        edges(x, "speaks", 0, ints(1, 2), REPLICA, REPLICA);
        unlikeOnes(x, "speaks", 0);
        DeltaNests y = under("speaks 1;loses 0;");
        refused(y, "speaks", 0, ints(0, 1), ints(3, 2));
        y.set(0, 0, 0, 0);
        due("something to send", y.speaks(0, 1), true);
        refused(y, "speaks", 0, ints(1, 0), ints(1, 2));
        y.day(12);
        due("acked", y.speaks(0, 1), false);
    }

    @Says(in = "Promise 48", that = "SAID: how many there are (from NONE: none any more). -2 for others (unlike REPLICAS; 0 .. 99; 0, 1), or if there are 8.")
    static void p48() {
        DeltaNests x = full();
        edges(x, "said", -2, ints(1, 2, 5, 1), ints(0, 3, -2), REPLICA, ints(0, 99), ints(0, 1));
        unlikeOnes(x, "said", -2, 5, 1);
        due("eight", x.about(3), 8);
        x = full();
        for (int i = 1; i <= 8; i++) {
            due("many", x.said(3, 2, 99, 1), i);
        }
        refused(x, "said", -2, ints(1, 2, 5, 1), ints(0, 1, 0, 0), ints(4, 1, 0, 0));
        due("none any more", x.said(NONE, 1, 1, 1), 0);
        refused(x, "said", -2, ints(0, -1, 0, 0), ints(-2, 0, 0, 0), ints(0, 1, 100, 0), ints(0, 1, 0, 2), ints(3, 3, 0, 0));
        unlikeOnes(x, "said", -2, 5, 1);
        for (int i = 1; i <= 8; i++) {
            due("many", x.said(0, 1, 0, 0), i);
        }
        refused(x, "said", -2, ints(0, 1, 0, 0));
        x.back();
        due("the image's", x.said(0, 1, 0, 0), 1);
    }

    @Says(in = "Promise 49", that = "WHOSE LAW (bits).")
    static void p49() {
        DeltaNests x = new DeltaNests();
        due("of none", x.whose(), 0);
        x.said(0, 1, 0, 0);
        due("of none", x.whose(), 0);
        for (int text = 0; text < 4; text++) {
            read(x, "");
            due("each", x.whose(), (2 << text) - 1);
        }
        x.said(0, 1, 99, 1);
        due("none is so", x.whose(), 0);
    }

    @Says(in = "Promise 50", that = "BY THE BOOK. -2 for others (0 .. 4).")
    static void p50() {
        edges(full(), "ledger", -2, 1, 0, 4);
        edges(new DeltaNests(), "ledger", -2, 1, 0, 4);
    }

    @Says(in = "Promise 51", that = "THE IMAGE is as all is now: CLOCK.")
    static void p51() {
        DeltaNests x = full();
        due("clock", x.image(), 4);
        due("no step", x.about(2), 30);
        x.day(5);
        due("clock", x.image(), 9);
        x.day(5);
        due("the latest image", x.back(), 9);
        pass(x, 9999);
        due("clock", x.image(), 9999);
    }

    @Says(in = "Promise 52", that = "BACK to THE IMAGE (it stays): CLOCK.")
    static void p52() {
        DeltaNests x = full();
        x.image();
        String before = brief(x);
        for (int i = 0; i < 3; i++) {
            for (int k = 0; k < 31; k++) {
                x.set(k % 4, 0, 0, k);
            }
            x.day(12);
            due("clock", x.back(), 4);
            due("all is so again", brief(x), before);
        }
        for (int left = 29; left >= 27; left--) {
            due("its steps", x.undo(), left);
        }
        due("back", x.back(), 4);
        due("all is so again", brief(x), before);
    }

    @Says(in = "Promise 53", that = "0 TEXTS, 1 THE TEXT (NONE), 2 STEPS that can be taken back, 3 SAID, 4 bytes of the tape, 5 DELAY. -2 for others.")
    static void p53() {
        edges(full(), "about", -2, 0, 0, 5);
        DeltaNests x = new DeltaNests();
        refused(x, "about", -2, ints(-1), ints(6), ints(MIN), ints(MAX));
        due("none", x.about(1), NONE);
        for (int text = 0; text < 4; text++) {
            read(x, "");
            x.by(text);
            x.said(0, 1, 0, 0);
            x.day(1);
            x.delay(text + 5);
            x.feed(0, 0, 0, 0, 0);
            int n = text + 1;
            due("0 to 2", x.about(0) * 100 + x.about(1) * 10 + x.about(2), n * 100 + text * 10 + n);
            due("3 to 5", x.about(3) * 1000 + x.about(4) * 10 + x.about(5), n * 1000 + 200 + text + 5);
        }
    }

    /** Whatever the arguments are, a call answers; beyond all limits it is refused. */
    @Says(in = "Promise 8", that = "NONE for others (0 .. 99), and beyond 63.")
    static void farBeyond() {
        String[] names = {"end 1 -1", "fault 1 -1", "by 1 0", "delay 1 0", "set 4 -1", "clear 3 -1", "reset 2 -1", "send 2 -1", "day 1 -1",
            "played 1 -2", "years 2 -1", "values 4 -2", "entry 3 -2", "context 2 -1", "cloud 4 -2", "knows 3 0", "delta 3 -2", "of 2 -2",
            "acked 2 -1", "flight 2 -2", "is 1 -2", "book 2 -2", "foretold 2 -1", "need 2 -1", "would 3 -1", "digest 1 -1", "same 2 0",
            "below 2 0", "join 3 -1", "all 1 -1", "parts 1 -1", "unlike 2 -1", "spared 2 -1", "winner 3 -1", "torn 1 -1", "fields 2 -1",
            "sum 2 -1", "share 2 -1", "behind 1 -1", "speaks 2 0", "said 4 -2", "ledger 1 -2", "about 1 -2"};
        DeltaNests[] all = {new DeltaNests(), full()};
        for (DeltaNests x : all) {
            String before = brief(x);
            for (String line : names) {
                String[] parts = line.split(" ");
                int[] row = new int[Integer.parseInt(parts[1])];
                for (int far : new int[] {MIN, MIN + 1, -1000, -2, 301, 10000, 1 << 30, MAX}) {
                    java.util.Arrays.fill(row, far);
                    due(parts[0] + " of " + far, call(x, parts[0], row), Integer.parseInt(parts[2]));
                }
            }
            due("nothing is done", brief(x), before);
        }
    }
}
