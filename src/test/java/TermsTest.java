/** A test for each sentence of the document's Terms that names a limit: just inside, just beyond, by long runs. */
public final class TermsTest extends Checks {
    private static final String T = "Terms";

    public static void main(String[] args) throws Exception {
        Document.hold(TermsTest.class, T, "\\d+");
    }

    @Says(in = T, that = "The constants: `NONE = -1`: None.")
    static void constants() {
        due("NONE", DeltaNests.NONE, -1);
    }

    // I. Replicas, dots, states.

    @Says(in = T, that = "REPLICAS 0 .. 3.")
    static void replicas() {
        DeltaNests x = new DeltaNests();
        refused(x, "set", NONE, new int[] {-1, 0, 0, 0}, new int[] {4, 0, 0, 0}, new int[] {MIN, 0, 0, 0}, new int[] {MAX, 0, 0, 0});
        for (int r = 0; r < 4; r++) {
            due("set at " + r, x.set(r, 0, 0, 0), 1);
            due("of", x.of(r, 3), 1);
            due("share", x.share(r, r), 1);
        }
        refused(x, "of", -2, new int[] {-1, 0}, new int[] {4, 0});
        due("all joined are four", x.all(1), 4);
    }

    @Says(in = T, that = "A DOT: a REPLICA and a number 1 .. 63;")
    static void numbersByHand() {
        for (int r = 0; r < 4; r++) {
            DeltaNests x = new DeltaNests();
            for (int n = 1; n <= 63; n++) {
                due("set", x.set(r, n % 4, n % 3, n), n);
            }
            due("all are known", x.context(r, r), 63);
            due("the last", x.knows(r, r, 63), true);
            due("none beyond", x.knows(r, r, 64), false);
            due("none ahead", x.knows(r, r, 0), false);
            refused(x, "set", NONE, new int[] {r, 0, 0, 0}, new int[] {r, 3, 2, 99});
            due("it can clear yet", x.clear(r, 63 % 4, 0), 1);
            due("another one can set", x.set((r + 1) % 4, 0, 0, 0), 1);
            x.undo();
            x.undo();
            x.undo();
            due("62", x.context(r, r), 62);
            due("the 63rd again", x.set(r, 0, 0, 0), 63);
            due("none beyond", x.set(r, 0, 0, 0), NONE);
        }
    }

    @Says(in = T, that = "A DOT: a REPLICA and a number 1 .. 63;")
    static void numbersPlayed() {
        DeltaNests x = new DeltaNests();
        due("21 clauses", read(x, "set0of0at1to5;".repeat(21)), 0);
        due("20 clauses", read(x, "set0of0at2to5;".repeat(20)), 1);
        for (int i = 0; i < 3; i++) {
            due("63 in three", x.played(0), NONE);
            due("60 in three", x.played(1), NONE);
        }
        due("the 64th is the first clause", x.played(0), 0);
        due("61, 62, 63, and no 64th", x.played(1), 3);
        due("63", x.of(1, 3), 63);
        due("63", x.of(2, 3), 63);
    }

    @Says(in = T, that = "A DOT: a REPLICA and a number 1 .. 63;")
    static void numbersKnownElsewhere() {
        DeltaNests x = lossless();
        for (int n = 1; n <= 62; n++) {
            x.set(3, 0, 0, 1);
        }
        sync(x, 3, 0);
        due("62 are known", x.context(0, 3), 62);
        due("the last set", x.set(3, 0, 1, 2), 63);
        due("a cloud of one", x.cloud(3, 0, NONE, 0), 1);
        due("the last", x.cloud(3, 0, 0, 1), 63);
        sync(x, 3, 0);
        due("63 are known", x.context(0, 3), 63);
        due("the last", x.knows(0, 3, 63), true);
        due("none beyond", x.knows(0, 3, 64), false);
        due("its entry", x.entry(0, 1, 1), 63);
        due("its own are none", x.context(0, 0), 0);
    }

    @Says(in = T, that = "DOTS are in order by REPLICAS, then by numbers.")
    static void dotsInOrder() {
        DeltaNests x = full();
        int before = -1;
        int many = x.entry(2, NONE, 0);
        due("many", many, 45);
        for (int i = 0; i < many; i++) {
            int dot = x.entry(2, i, 0) * 64 + x.entry(2, i, 1);
            due("in order", dot > before, true);
            before = dot;
        }
        due("the last replica's last", before, 3 * 64 + 11);
    }

    @Says(in = T, that = "a KEY 0 .. 3,")
    static void keys() {
        DeltaNests x = new DeltaNests();
        refused(x, "set", NONE, new int[] {0, -1, 0, 0}, new int[] {0, 4, 0, 0}, new int[] {0, MIN, 0, 0}, new int[] {0, MAX, 0, 0});
        for (int k = 0; k < 4; k++) {
            due("set", x.set(0, k, 0, 0), k + 1);
            due("the key", x.entry(0, k, 2), k);
        }
        due("bits", x.of(0, 2), 15);
        refused(x, "reset", NONE, new int[] {0, -1}, new int[] {0, 4});
        due("the last key's", x.reset(0, 3), 1);
        due("the first key's", x.reset(0, 0), 1);
        due("bits", x.of(0, 2), 6);
    }

    @Says(in = T, that = "a FIELD 0 .. 2,")
    static void fieldsOfKeys() {
        DeltaNests x = new DeltaNests();
        refused(x, "set", NONE, new int[] {0, 0, -1, 0}, new int[] {0, 0, 3, 0}, new int[] {0, 0, MIN, 0}, new int[] {0, 0, MAX, 0});
        for (int f = 0; f < 3; f++) {
            due("set", x.set(0, 0, f, 0), f + 1);
            due("the field", x.entry(0, f, 3), f);
        }
        due("bits", x.fields(0, 0), 7);
        refused(x, "clear", NONE, new int[] {0, 0, -1}, new int[] {0, 0, 3});
        due("the last field's", x.clear(0, 0, 2), 1);
        due("the first field's", x.clear(0, 0, 0), 1);
        due("bits", x.fields(0, 0), 2);
    }

    @Says(in = T, that = "a VALUE 0 .. 99;")
    static void valuesOfFields() {
        DeltaNests x = new DeltaNests();
        refused(x, "set", NONE, new int[] {0, 0, 0, -1}, new int[] {0, 0, 0, 100}, new int[] {0, 0, 0, MIN}, new int[] {0, 0, 0, MAX});
        due("the least", x.set(0, 3, 2, 0), 1);
        due("it", x.values(0, 3, 2, 0), 0);
        due("it wins", x.winner(0, 3, 2), 0);
        due("the greatest", x.set(0, 3, 2, 99), 2);
        due("it", x.values(0, 3, 2, 0), 99);
        due("key and field are as told", x.entry(0, 0, 2) * 10 + x.entry(0, 0, 3), 32);
    }

    @Says(in = T, that = "THE VECTOR of each REPLICA: up to which number all are known; THE CLOUD: those known beyond"
        + " (as soon as the next one of a REPLICA is known THE VECTOR goes on).")
    static void vectorGoesOn() {
        DeltaNests x = lossless();
        x.set(0, 0, 0, 1);
        due("the first is in the vector", x.cloud(0, 1, NONE, 0), 0);
        x.set(0, 1, 0, 1);
        sync(x, 0, 1);
        x.set(0, 2, 0, 1);
        due("the third alone is beyond", x.cloud(0, 1, NONE, 0), 1);
        x.set(0, 0, 0, 2);
        due("the first, and two beyond", x.would(0, 1, 1) * 10 + x.cloud(0, 1, NONE, 0), 32);
        due("the third", x.cloud(0, 1, 0, 1), 3);
        due("the fourth", x.cloud(0, 1, 1, 1), 4);
        x.set(0, 1, 0, 2);
        due("the second goes on to the fifth", x.would(0, 1, 1) * 10 + x.cloud(0, 1, NONE, 0), 50);
        due("the vector there", x.context(1, 0), 2);
        sync(x, 0, 1);
        due("the vector goes on", x.context(1, 0), 5);
    }

    @Says(in = T, that = "its own CLOUD is always empty, those of DELTAS and MESSAGES need not be)")
    static void ownCloudIsEmpty() {
        DeltaNests x = under("loses 4;speaks behind - 1;");
        int clouds = 0;
        for (int round = 0; round < 17; round++) {
            x.years(round * 577, 24);
            for (int r = 0; r < 4; r++) {
                int all = 0;
                for (int of = 0; of < 4; of++) {
                    all += x.context(r, of);
                }
                due("all it knows stands in its vectors", x.of(r, 3), all);
                clouds += Math.max(0, x.cloud(r, (r + 1 + round % 3) % 4, NONE, 0));
            }
        }
        due("messages have clouds", clouds > 0, true);
    }

    @Says(in = T, that = "DELTAS (each a STATE; numbers from 1 on; how many there were, how many are dropped)")
    static void deltasFromOne() {
        DeltaNests x = new DeltaNests();
        due("none", x.delta(0, NONE, 0), 0);
        due("none such", x.delta(0, 0, 0), -2);
        x.set(0, 0, 0, 0);
        due("the first", x.delta(0, 0, 0), 1);
        due("one", x.of(0, 0), 1);
        due("none dropped", x.of(0, 1), 0);
        x.clear(0, 0, 0);
        due("the second", x.delta(0, 1, 0), 2);
        due("none such", x.delta(0, 2, 0), -2);
    }

    @Says(in = T, that = "what each other one has ACKED (at first 0).")
    static void ackedAtFirst() {
        DeltaNests x = lossless();
        x.set(0, 0, 0, 0);
        for (int by = 1; by < 4; by++) {
            due("at first", x.acked(0, by), 0);
        }
        sync(x, 0, 2);
        due("others' as at first", x.acked(0, 1) + x.acked(0, 3), 0);
        due("one", x.acked(0, 2), 1);
    }

    @Says(in = T, that = "DELAY 1 .. 9 (told; at first 2).")
    static void delayTold() {
        DeltaNests x = lossless();
        due("at first", x.about(5), 2);
        edges(x, "delay", 0, 5, 1, 9);
        due("the last told", x.about(5), 9);
        x.set(0, 0, 0, 0);
        x.send(0, 1);
        x.delay(1);
        x.send(0, 1);
        due("1", x.flight(0, 2), 1);
        due("9", x.flight(1, 2), 9);
    }

    @Says(in = T, that = "CLOCK 0 .. 9999 (at first 0).")
    static void clock() {
        DeltaNests x = new DeltaNests();
        due("at first", x.is(0), 0);
        pass(x, 9999);
        due("the last", x.is(0), 9999);
        refused(x, "day", NONE, new int[] {1}, new int[] {12});
        due("the image's", x.back(), 0);
    }

    @Says(in = T, that = "X: at first 509.")
    static void firstX() {
        DeltaNests x = new DeltaNests();
        due("at first", x.is(1), 509);
        x.set(0, 0, 0, 0);
        x.day(12);
        due("nothing was drawn", x.is(1), 509);
    }

    @Says(in = T, that = "BOOK (the latest 25).")
    static void latestLines() {
        DeltaNests x = new DeltaNests();
        for (int i = 0; i < 24; i++) {
            x.set(0, i % 4, 0, 0);
        }
        due("24", x.book(NONE, 0), 24);
        due("no 25th", x.book(24, 0), -2);
        x.set(1, 3, 0, 0);
        due("25", x.book(NONE, 0), 25);
        due("the first", x.book(0, 3), 0);
        due("the 25th", x.book(24, 2), 1);
        x.set(2, 3, 0, 0);
        due("25 at most", x.book(NONE, 0), 25);
        due("the eldest is the second", x.book(0, 3), 1);
        due("the latest", x.book(24, 2), 2);
        due("no 26th", x.book(25, 0), -2);
        due("25 at most", x.ledger(0), 25);
        x.undo();
        due("the first again", x.book(0, 3), 0);
        x.undo();
        due("24 again", x.book(NONE, 0), 24);
    }

    @Says(in = T, that = "BOOK (the latest 25).")
    static void latestLinesOfLongRun() {
        DeltaNests x = new DeltaNests();
        for (int i = 0; i < 200; i++) {
            x.set(i / 4 % 4, i % 4, 0, 0);
        }
        for (int i = 0; i < 25; i++) {
            due("replica and key", x.book(i, 2) * 10 + x.book(i, 3), (175 + i) / 4 % 4 * 10 + (175 + i) % 4);
        }
        due("25", x.book(NONE, 0), 25);
    }

    @Says(in = T, that = "SET at a REPLICA: a DELTA: an ENTRY with its next DOT (one more than it KNOWS of its own),"
        + " KNOWING that DOT and those of ENTRIES of that KEY and FIELD it has.")
    static void deltaOfSet() {
        DeltaNests x = lossless();
        x.set(0, 1, 1, 1);
        due("none there: its own dot", x.delta(0, 0, 2), 1);
        x.set(0, 1, 2, 1);
        x.set(0, 2, 1, 1);
        due("another field, another key", x.delta(0, 1, 2) * 10 + x.delta(0, 2, 2), 11);
        x.set(0, 1, 1, 1);
        due("one there", x.delta(0, 3, 2), 2);
        for (int r = 1; r < 4; r++) {
            x.set(r, 1, 1, r);
            x.send(r, 0);
        }
        x.day(2);
        due("four there", x.values(0, 1, 1, NONE), 4);
        due("the next dot, of its own alone", x.set(0, 1, 1, 9), 5);
        due("five dots", x.delta(0, x.delta(0, NONE, 0) - 1, 2), 5);
        due("one entry", x.delta(0, x.delta(0, NONE, 0) - 1, 1), 1);
        due("one there", x.values(0, 1, 1, NONE), 1);
    }

    @Says(in = T, that = "CLEARED: a DELTA without ENTRIES, KNOWING DOTS of its ENTRIES of that KEY and FIELD (some).")
    static void deltaOfClear() {
        DeltaNests x = lossless();
        refused(x, "clear", NONE, new int[] {0, 1, 1});
        x.set(0, 1, 1, 1);
        x.set(0, 1, 0, 1);
        refused(x, "clear", NONE, new int[] {0, 1, 2}, new int[] {0, 2, 1}, new int[] {1, 1, 1});
        x.set(1, 1, 1, 1);
        sync(x, 1, 0);
        due("two of one field", x.clear(0, 1, 1), 2);
        due("without entries", x.delta(0, 3, 1), 0);
        due("two dots", x.delta(0, 3, 2), 2);
        refused(x, "clear", NONE, new int[] {0, 1, 1});
        due("one of the other", x.clear(0, 1, 0), 1);
        due("one dot", x.delta(0, 4, 2), 1);
    }

    @Says(in = T, that = "RESET: likewise of all ENTRIES of that KEY.")
    static void deltaOfReset() {
        DeltaNests x = lossless();
        refused(x, "reset", NONE, new int[] {0, 1});
        for (int i = 0; i < 12; i++) {
            x.set(0, i / 3, i % 3, 1);
            x.set(1, i / 3, i % 3, 2);
        }
        sync(x, 1, 0);
        refused(x, "reset", NONE, new int[] {2, 1});
        due("all of three fields", x.reset(0, 1), 6);
        due("without entries", x.delta(0, 5, 1), 0);
        due("six dots", x.delta(0, 5, 2), 6);
        due("the others are there", x.entry(0, NONE, 0), 18);
        refused(x, "reset", NONE, new int[] {0, 1});
    }

    @Says(in = T, that = "Of DELTAS more than 6 the eldest is dropped;")
    static void sixDeltas() {
        DeltaNests x = new DeltaNests();
        for (int n = 1; n <= 63; n++) {
            x.set(0, n % 4, n % 3, n);
            due("kept", x.delta(0, NONE, 0), Math.min(n, 6));
            due("dropped", x.of(0, 1), Math.max(0, n - 6));
            due("the eldest", x.delta(0, 0, 0), Math.max(1, n - 5));
            due("the latest", x.delta(0, Math.min(n, 6) - 1, 0), n);
            due("none beyond", x.delta(0, Math.min(n, 6), 0), -2);
            due("needed", x.need(0, 1), n <= 6 ? n : 0);
        }
    }

    @Says(in = T, that = "Of DELTAS more than 6 the eldest is dropped;")
    static void sixDeltasOfEachKind() {
        DeltaNests x = lossless();
        for (int n = 1; n <= 40; n++) {
            x.set(0, 0, 0, n);
            x.send(0, 1);
            x.day(2);
            due("what came is one", x.of(1, 0), n);
            due("dropped", x.of(1, 1), Math.max(0, n - 6));
            due("as it came", x.delta(1, Math.min(n, 6) - 1, 1), 1);
        }
        due("a clear is one", x.clear(1, 0, 0), 1);
        due("of deltas", x.of(1, 0) * 100 + x.of(1, 1), 4135);
        x.set(1, 0, 0, 1);
        due("a reset is one", x.reset(1, 0), 1);
        due("of deltas", x.of(1, 0) * 100 + x.of(1, 1), 4337);
        due("the two without entries", x.delta(1, 3, 1) + x.delta(1, 5, 1), 0);
        due("and the set between", x.delta(1, 4, 1), 1);
    }

    @Says(in = T, that = "all that every other REPLICA has ACKED are dropped.")
    static void droppedByAll() {
        DeltaNests x = lossless();
        x.set(0, 0, 0, 0);
        x.send(0, 3);
        x.set(0, 0, 1, 0);
        x.send(0, 2);
        x.set(0, 0, 2, 0);
        x.day(3);
        due("none yet", x.of(0, 1), 0);
        x.day(1);
        due("two have acked", x.acked(0, 3) * 10 + x.acked(0, 2), 12);
        due("not all", x.of(0, 1), 0);
        x.send(0, 1);
        x.day(3);
        due("not yet all", x.of(0, 1), 0);
        x.day(1);
        due("the least of three", x.of(0, 1), 1);
        due("two are kept", x.delta(0, NONE, 0), 2);
        due("the eldest", x.delta(0, 0, 0), 2);
        sync(x, 0, 3);
        due("the least of three", x.of(0, 1), 2);
        sync(x, 0, 2);
        due("all", x.of(0, 1), 3);
        due("none is kept", x.delta(0, NONE, 0), 0);
        due("none such", x.delta(0, 0, 0), -2);
        for (int i = 4; i <= 9; i++) {
            x.set(0, 0, 0, 0);
        }
        due("six more are kept", x.delta(0, 0, 0) * 10 + x.delta(0, NONE, 0), 46);
        x.set(0, 0, 0, 0);
        due("the seventh drops one", x.of(0, 1), 4);
    }

    @Says(in = T, that = "all that every other REPLICA has ACKED are dropped.")
    static void droppedByTheLast() {
        for (int from = 0; from < 4; from++) {
            for (int last = 0; last < 4; last++) {
                DeltaNests x = lossless();
                x.set(from, 0, 0, 0);
                x.set(from, 0, 1, 0);
                for (int to = 0; to < 4; to++) {
                    if (to != from && to != last) {
                        sync(x, from, to);
                        due("not yet all", x.of(from, 1), last == from && to == (from == 3 ? 2 : 3) ? 2 : 0);
                    }
                }
                if (last != from) {
                    x.send(from, last);
                    x.day(3);
                    due("not yet the last", x.of(from, 1), 0);
                    x.day(1);
                }
                due("all", x.of(from, 1), 2);
                due("none is kept", x.delta(from, NONE, 0), 0);
            }
        }
    }

    @Says(in = T, that = "SENT, one to another: is what that one ACKED less than how many DELTAS there were:")
    static void sentBeyondAcked() {
        DeltaNests x = lossless();
        refused(x, "send", NONE, new int[] {0, 1});
        x.set(0, 0, 0, 0);
        due("one more than acked", x.send(0, 1), 1);
        x.day(3);
        due("not yet acked", x.send(0, 1), 1);
        x.day(1);
        due("acked", x.acked(0, 1), 1);
        refused(x, "send", NONE, new int[] {0, 1});
        due("to another", x.send(0, 2), 1);
        due("from it", x.send(1, 0), 1);
    }

    @Says(in = T, that = "or, if any of these is dropped, of its STATE, up to the latest DELTA;")
    static void stateIfDropped() {
        DeltaNests x = lossless();
        x.set(0, 1, 1, 1);
        sync(x, 0, 1);
        for (int i = 0; i < 6; i++) {
            x.set(0, i % 2, 0, 1);
        }
        due("six behind", x.need(0, 1), 6);
        due("entries of these", x.would(0, 1, 0) * 10 + x.would(0, 1, 1), 26);
        due("the first is dropped", x.need(0, 2), 0);
        due("its state", x.would(0, 2, 0) * 10 + x.would(0, 2, 1), 37);
        due("up to the latest", x.send(0, 2), 7);
        x.set(0, 0, 0, 1);
        due("the second is dropped", x.need(0, 1), 0);
        due("its state", x.would(0, 1, 0) * 10 + x.would(0, 1, 1), 38);
        due("up to the latest", x.send(0, 1), 8);
        due("it", x.flight(1, 5) * 10 + x.flight(1, 6), 38);
    }

    @Says(in = T, that = "a draw by 10 (X mod 10, X becoming (X * 773 + 641) mod 31139 behind it): below loses (as all is then),"
        + " or if there are 24 IN FLIGHT, it is lost,")
    static void drawsOfLongRun() {
        for (int loses = 0; loses <= 10; loses++) {
            DeltaNests x = under("loses " + loses + ";");
            x.set(0, 0, 0, 0);
            int drawn = 509;
            int lost = 0;
            int flying = 0;
            for (int n = 1; n <= 100; n++) {
                if (drawn % 10 < loses || flying == 24) {
                    lost++;
                } else {
                    flying++;
                }
                drawn = drawn(drawn);
                x.send(0, 1 + n % 3);
                due("lost", x.is(3), lost);
                due("x", x.is(1), drawn);
            }
            due("sent", x.is(2), 100);
            due("in flight", x.flight(NONE, 0), flying);
        }
    }

    @Says(in = T, that = "below loses (as all is then)")
    static void belowLoses() {
        // 509 mod 10 is 9, then 20430 mod 10 is 0.
        int[][] rows = {{9, 0}, {10, 1}};
        for (int[] row : rows) {
            DeltaNests x = under("loses if clock = 0 then " + row[0] + " else 5 end;");
            x.set(0, 0, 0, 0);
            x.send(0, 1);
            due("the first draw is 9", x.is(3), row[1]);
        }
        for (int loses = 0; loses < 2; loses++) {
            DeltaNests x = under("loses if clock = 0 then " + loses + " else 5 end;");
            x.set(0, 0, 0, 0);
            x.send(0, 1);
            x.send(0, 1);
            due("the second draw is 0", x.is(3), loses);
        }
        // The answer's law sees the state that the message has left.
        DeltaNests x = under("loses if has 1 = 0 then 0 else 10 end;");
        x.set(0, 0, 0, 0);
        x.send(0, 1);
        x.day(2);
        due("the answer is lost", x.is(3), 1);
    }

    @Says(in = T, that = "or if there are 24 IN FLIGHT, it is lost,")
    static void flightsByHand() {
        DeltaNests x = lossless();
        x.set(0, 0, 0, 0);
        for (int i = 1; i <= 24; i++) {
            x.send(0, 1);
            due("in flight", x.flight(NONE, 0), i);
        }
        due("none lost", x.is(3), 0);
        due("the 24th", x.flight(23, 0), 0);
        due("no 25th", x.flight(24, 0), -2);
        int drawn = x.is(1);
        due("the 25th is sent", x.send(0, 1), 1);
        due("lost", x.is(3), 1);
        due("drawn all the same", x.is(1), drawn(drawn));
        due("written down", x.book(x.book(NONE, 0) - 1, 1), 3);
        due("24", x.flight(NONE, 0), 24);
        due("it can be taken back", x.undo(), 25);
        due("none lost", x.is(3), 0);
        due("all come", x.day(2), 24);
        due("their answers go: as one comes there is room for one", x.flight(NONE, 0), 24);
        due("none lost", x.is(3), 0);
        due("and come", x.day(2), 24);
        due("none", x.flight(NONE, 0), 0);
    }

    @Says(in = T, that = "or if there are 24 IN FLIGHT, it is lost,")
    static void flightsInTicks() {
        for (int many = 21; many <= 24; many++) {
            DeltaNests x = under("loses 0;speaks if clock = 5 then 1 else 0 end;");
            x.delay(9);
            x.set(0, 0, 0, 0);
            for (int i = 0; i < many; i++) {
                x.send(0, 1);
            }
            due("nothing comes", x.day(5), 0);
            due("three more are sent", x.is(2), many + 3);
            due("lost beyond 24", x.is(3), many - 21);
            due("24", x.flight(NONE, 0), 24);
            due("all came and are answered", x.day(4), many);
            due("24", x.flight(NONE, 0), 24);
        }
    }

    @Says(in = T, that = "to come at CLOCK and DELAY (as told then).")
    static void comesAt() {
        for (int delay = 1; delay <= 9; delay++) {
            DeltaNests x = lossless();
            x.day(3);
            x.set(0, 0, 0, 0);
            x.delay(delay);
            x.send(0, 1);
            x.delay(10 - delay);
            due("as told then", x.flight(0, 2), 3 + delay);
            due("not yet", delay > 1 ? x.day(delay - 1) : 0, 0);
            due("then", x.day(1), 1);
            due("the answer as told then", x.flight(0, 2), 13);
            due("not yet", delay < 9 ? x.day(9 - delay) : 0, 0);
            due("then", x.day(1), 1);
        }
    }

    @Says(in = T, that = "CLOCK is one more (at 9999 none can pass);")
    static void noTickBeyond() {
        DeltaNests x = lossless();
        read(x, "day 1;");
        pass(x, 9998);
        x.set(0, 0, 0, 0);
        x.delay(1);
        x.send(0, 1);
        x.delay(2);
        x.send(0, 2);
        refused(x, "day", NONE, new int[] {2});
        due("the last one", x.day(1), 1);
        due("the other would come beyond", x.flight(0, 2), 10000);
        due("the answer as well", x.flight(1, 2), 10001);
        int steps = x.about(2);
        refused(x, "day", NONE, new int[] {1});
        due("by hand of a text", x.played(1), 0);
        due("no step", x.about(2), steps);
        due("1 * 2 + 509 mod 8 is 7", x.years(1, 1), 9999);
        due("foretold as it is", x.foretold(12, 2), 0);
        due("years are a step all the same", x.undo(), 29);
        x.undo();
        due("9998", x.is(0), 9998);
        due("a tick of years", x.years(1, 1), 9999);
    }

    @Says(in = T, that = "MESSAGES that come at CLOCK, in the order in which they were sent, come:")
    static void comeInOrder() {
        DeltaNests x = lossless();
        x.set(0, 0, 0, 0);
        x.set(1, 0, 0, 0);
        x.set(2, 0, 0, 0);
        x.delay(5);
        x.send(2, 3);
        x.send(1, 3);
        x.day(1);
        x.delay(4);
        x.send(0, 3);
        x.delay(1);
        x.send(0, 1);
        due("the one that comes first", x.flight(0, 1), 1);
        due("then as they were sent", x.flight(1, 0) * 100 + x.flight(2, 0) * 10 + x.flight(3, 0), 210);
        x.day(4);
        due("deltas there as they came", x.delta(3, NONE, 0), 3);
        int lines = x.book(NONE, 0);
        due("written as they came", x.book(lines - 3, 3) * 100 + x.book(lines - 2, 3) * 10 + x.book(lines - 1, 3), 210);
    }

    @Says(in = T, that = "if the JOIN is not ALIKE the STATE of the REPLICA it comes to, that is it, and what came (as it came) is"
        + " its next DELTA; then, anyway, an answer is sent back, up to the same DELTA (drawn, lost or IN FLIGHT likewise).")
    static void nothingNewIsNoDelta() {
        DeltaNests x = lossless();
        x.set(0, 0, 0, 1);
        x.send(0, 1);
        x.set(0, 0, 1, 1);
        x.send(0, 1);
        x.send(0, 1);
        due("three come", x.day(2), 3);
        due("two had news", x.of(1, 0), 2);
        due("the second as it came", x.delta(1, 1, 1) * 10 + x.delta(1, 1, 2), 22);
        due("three answers", x.flight(NONE, 0), 3);
        due("up to as many as came", x.flight(0, 4) * 100 + x.flight(1, 4) * 10 + x.flight(2, 4), 122);
        due("each was drawn", x.is(2), 6);
        // What is known as gone is no news either; what is newly gone is.
        x.day(2);
        x.clear(0, 0, 0);
        x.clear(1, 0, 0);
        due("its own", x.of(1, 0), 3);
        x.send(0, 1);
        x.day(2);
        due("the like is no news", x.of(1, 0), 3);
        x.clear(0, 0, 1);
        x.send(0, 1);
        x.day(2);
        due("what is gone is news", x.of(1, 0), 4);
    }

    @Says(in = T, that = "An answer: what is ACKED is as much, if that is more (DELTAS are dropped by it).")
    static void ackedIfMore() {
        DeltaNests x = lossless();
        x.set(0, 0, 0, 0);
        x.set(0, 0, 0, 0);
        x.delay(3);
        x.send(0, 1);
        x.delay(1);
        x.set(0, 0, 0, 0);
        x.send(0, 1);
        x.send(0, 1);
        x.day(2);
        due("three", x.acked(0, 1), 3);
        due("as many is not more", x.flight(NONE, 0), 1);
        due("two come later", x.day(2), 2);
        due("three yet", x.acked(0, 1), 3);
        x.set(0, 0, 0, 0);
        x.send(0, 1);
        x.day(2);
        due("one more", x.acked(0, 1), 4);
    }

    @Says(in = T, that = "Then each REPLICA, for each other one, both by number, for which speaks lets it: SENT (if there is something to send).")
    static void speaksIfSomething() {
        DeltaNests x = under("loses 0;speaks 1;");
        x.day(12);
        due("nothing to send", x.is(2), 0);
        x.set(2, 0, 0, 0);
        x.day(1);
        due("to three", x.is(2), 3);
        due("by number", x.flight(0, 1) * 100 + x.flight(1, 1) * 10 + x.flight(2, 1), 13);
        due("from it alone", x.flight(0, 0) + x.flight(1, 0) + x.flight(2, 0), 6);
    }

    @Says(in = T, that = "the latest 30 can be taken back, the latest first")
    static void steps() {
        DeltaNests x = new DeltaNests();
        for (int n = 1; n <= 29; n++) {
            x.set(0, 0, 0, n);
        }
        due("29", x.about(2), 29);
        x.set(0, 0, 0, 30);
        due("30", x.about(2), 30);
        x.set(0, 0, 0, 31);
        due("30 yet", x.about(2), 30);
        for (int left = 29; left >= 0; left--) {
            due("taken back", x.undo(), left);
            due("the latest first", x.values(0, 0, 0, 0), left + 1);
        }
        refused(x, "undo", NONE, new int[0]);
        due("the first stays", x.values(0, 0, 0, 0), 1);
        due("a new one", x.set(0, 0, 0, 7), 2);
        due("can be taken back", x.undo(), 0);
    }

    @Says(in = T, that = "the latest 30 can be taken back, the latest first")
    static void refusedAreNoSteps() {
        for (int many = 29; many <= 31; many++) {
            DeltaNests x = lossless();
            for (int n = 1; n <= many; n++) {
                x.set(0, 0, 0, n);
            }
            refused(x, "clear", NONE, new int[] {0, 1, 1}, new int[] {1, 0, 0});
            refused(x, "reset", NONE, new int[] {0, 1}, new int[] {1, 0});
            refused(x, "send", NONE, new int[] {1, 0}, new int[] {0, 0});
            for (int n = many; n > Math.max(0, many - 30); n--) {
                due("the latest first", x.values(0, 0, 0, 0), n);
                due("taken back", x.undo(), n - 1 - Math.max(0, many - 30));
            }
            due("as ahead of the eldest kept", x.values(0, 0, 0, NONE), many - 30 > 0 ? 1 : 0);
        }
        DeltaNests x = new DeltaNests();
        for (int n = 1; n <= 63; n++) {
            x.set(3, 0, 0, n);
        }
        refused(x, "set", NONE, new int[] {3, 0, 0, 0}, new int[] {4, 0, 0, 0});
        for (int n = 63; n > 33; n--) {
            due("the latest first", x.values(3, 0, 0, 0), n);
            due("taken back", x.undo(), n - 34);
        }
        due("as ahead of the eldest kept", x.values(3, 0, 0, 0), 33);
        due("no more", x.undo(), NONE);
    }

    @Says(in = T, that = "the latest 30 can be taken back, the latest first")
    static void stepsOfLongRun() {
        DeltaNests x = new DeltaNests();
        for (int i = 0; i < 30; i++) {
            x.day(12);
        }
        due("each tick is one", x.about(2), 30);
        for (int i = 0; i < 30; i++) {
            due("taken back", x.undo(), 29 - i);
            due("clock", x.is(0), 359 - i);
        }
        due("no more", x.undo(), NONE);
        // Taken back in part, and others instead, again and again.
        int clock = 330;
        int kept = 0;
        for (int round = 1; round <= 20; round++) {
            x.day(7);
            clock += 7;
            kept = Math.min(30, kept + 7);
            for (int i = 0; i < 3; i++) {
                kept--;
                clock--;
                due("taken back", x.undo(), kept);
                due("clock", x.is(0), clock);
            }
        }
        while (kept > 0) {
            kept--;
            clock--;
            due("taken back", x.undo(), kept);
        }
        due("clock", x.is(0), clock);
        due("no more", x.undo(), NONE);
    }

    @Says(in = T, that = "STEPS: SET, CLEARED, RESET, SENT, a TICK (each), YEARS (see V):")
    static void whatStepsAre() {
        DeltaNests x = lossless();
        int steps = 0;
        due("none by texts", x.about(2), steps);
        x.delay(3);
        x.said(0, 1, 0, 0);
        x.image();
        due("none by what is told", x.about(2), steps);
        x.set(0, 0, 0, 0);
        due("set", x.about(2), ++steps);
        x.clear(0, 0, 0);
        due("cleared", x.about(2), ++steps);
        x.clear(0, 0, 0);
        x.reset(0, 0);
        due("what can't be is none", x.about(2), steps);
        x.set(0, 0, 0, 0);
        x.reset(0, 0);
        due("set, reset", x.about(2), steps += 2);
        x.send(0, 1);
        due("sent", x.about(2), ++steps);
        x.send(1, 0);
        due("nothing to send is none", x.about(2), steps);
        x.day(5);
        due("each tick", x.about(2), steps += 5);
        x.years(5, 24);
        due("years are one", x.about(2), ++steps);
        x.foretold(5, 0);
        x.till();
        x.spared(0, 0);
        x.whose();
        due("what is asked is none", x.about(2), steps);
        read(x, "set 0 of 0 at 3 to 1;day 3;reset 0 at 3;loses 1;");
        x.played(1);
        due("a text's are as by hand", x.about(2), steps += 5);
    }

    @Says(in = T, that = "(all but TEXTS, THE TEXT, SAID and DELAY is as ahead of it).")
    static void undoSparesWhatIsTold() {
        DeltaNests x = lossless();
        x.set(0, 0, 0, 0);
        String before = world(x);
        x.years(77, 24);
        x.delay(9);
        read(x, "loses 1;");
        x.by(1);
        x.said(0, 1, 1, 1);
        due("all was otherwise", world(x).equals(before), false);
        x.undo();
        due("all is as ahead", world(x).equals(before), true);
        due("texts", x.about(0), 2);
        due("the text", x.about(1), 1);
        due("said", x.about(3), 1);
        due("delay", x.about(5), 9);
    }

    // II. Texts and laws.

    @Says(in = T, that = "TEXTS 0 .. 3:")
    static void texts() {
        DeltaNests x = new DeltaNests();
        for (int text = 0; text < 4; text++) {
            due("none such", x.by(text), false);
            due("none such", x.played(text), -2);
            due("read", read(x, "day " + (text + 1) + ";"), text);
            due("such", x.by(text), true);
            due("played", x.played(text), NONE);
        }
        due("each of them", x.is(0), 10);
        tape(x, "day 5;");
        refused(x, "text", NONE, new int[0]);
        refused(x, "by", 0, new int[] {4}, new int[] {-2});
        refused(x, "played", -2, new int[] {4}, new int[] {-1});
        x.back();
        due("none again", x.about(0), 0);
        due("the tape is read then", x.text(), 0);
    }

    @Says(in = T, that = "of up to 300 bytes.")
    static void bytesOfText() {
        DeltaNests x = new DeltaNests();
        String text = "loses 1" + "+1".repeat(146) + ";";
        due("length", text.length(), 300);
        due("300 are a text", read(x, text), 0);
        for (int i = 0; i < 15; i++) {
            due("fed", x.feed(0x20202020, 0x20202020, 0x20202020, 0x20202020, 0x20202020), 20 * i + 20);
        }
        refused(x, "feed", NONE, new int[] {0x3b202020, 0, 0, 0, 0});
        refused(x, "end", NONE, new int[] {301});
        due("300 blanks are a text", x.text(), 1);
        faulty("loses 1" + "+1".repeat(146) + " ", 1, 300);
        faulty("loses 1" + "+1".repeat(145) + "+1+", 1, 300);
        faultless(" ".repeat(293) + "\nday 1;");
    }

    @Says(in = T, that = "TOKENS, blanks (32, 10) aside:")
    static void blanks() {
        faultless(" set 2\nof 3 \n at\n\n3  to 99\n ; \n");
        for (int c : new int[] {0, 1, 8, 9, 11, 12, 13, 31, 33, 127, 128, 160, 255}) {
            faulty("day" + (char) c + "1;", 1, 3);
            faulty((char) c + "day 1;", 1, 0);
        }
        faulty("d ay 1;", 1, 0);
        faulty("day 1 2;", 1, 6);
        faulty("loses if 1 < = 1 then 1 else 1 end;", 1, 13);
        faulty("loses if 1 > \n= 1 then 1 else 1 end;", 1, 14);
        faultless("loses 1\n;");
    }

    @Says(in = T, that = "letters a .. z, A .. Z one behind the other (one TOKEN),")
    static void letters() {
        for (char c : new char[] {'a', 'z', 'A', 'Z'}) {
            faulty("day" + c + " 1;", 1, 0);
            faulty("loses clock" + c + ";", 1, 6);
        }
        for (char c : new char[] {'@', '[', '`', '{', '/', ':'}) {
            faulty("day" + c + " 1;", 1, 3);
            faulty("loses clock" + c + ";", 1, c == '/' ? 12 : 11);
        }
        faulty("DAY 1;", 1, 0);
        faulty("loses1;speaks behind1;", 1, 20);
        faultless("day1;set0of0at0to0;reset0at0;");
    }

    @Says(in = T, that = "digits likewise (NUMBERS, 0 .. 9999),")
    static void numbersOfTexts() {
        faultless("loses 0;speaks 9999;");
        faulty("loses 10000;", 2, 6);
        faulty("loses 99999;", 2, 6);
        for (String wraps : new String[] {"65536", "2147483647", "2147483648", "4294967295", "4294967296", "4294967297",
            "18446744073709551616", "18446744073709551617", "1000000000000000000000000000000000000001"}) {
            faulty("speaks 1;loses " + wraps + ";", 2, 15);
            faulty("day " + wraps + ";", 2, 4);
        }
        faultless("day 000000000000000000000000000000000012;loses 00009999;");
        worthIs("00000000000000000000000000000000000000012", 12);
        worthIs("9999", 9999);
    }

    @Says(in = T, that = "<= >= < > = # + - * / ( ) ; (the longest).")
    static void theLongest() {
        faultless("loses if 1<=2 and 1>=2 and 1<2 and 1>2 and 1=2 and 1#2 then(1+2-3)*4/5 else 1 end;");
        faultless("loses if 1<-2 and 1>-2 and 1=-2 and 1#-2 and 1<=-2 then --1 else 1 end;");
        faulty("loses if 1=<2 then 1 else 1 end;", 1, 11);
        faulty("loses if 1=>2 then 1 else 1 end;", 1, 11);
        faulty("loses if 1<>2 then 1 else 1 end;", 1, 11);
        faulty("loses if 1<==2 then 1 else 1 end;", 1, 12);
        faulty("loses if 1>==2 then 1 else 1 end;", 1, 12);
        faulty("loses if 1##2 then 1 else 1 end;", 1, 11);
        faulty("loses 1**2;", 1, 8);
        faulty("loses 1+;", 1, 8);
        faulty("loses +1;", 1, 6);
        faulty("loses ();", 1, 7);
        faulty("loses 1<=", 1, 7);
        faulty(";", 1, 0);
        worthIs("if 1<=1 then 5 else 6 end", 5);
        worthIs("if 1>=2 then 5 else 6 end", 6);
    }

    @Says(in = T, that = "{CLAUSE}, 24 at most:")
    static void clauses() {
        DeltaNests x = new DeltaNests();
        due("none", read(x, ""), 0);
        due("blanks alone", read(x, " \n "), 1);
        due("24", read(x, "day 1;".repeat(23) + "send 1 to 1;"), 2);
        due("no 25", read(x, "day 1;".repeat(24) + "send 1 to 1;"), NONE);
        due("at the 25th", x.fault(0) * 1000 + x.fault(1), 6144);
        due("none is done", x.played(0), NONE);
        due("none is done", x.played(1), NONE);
        due("the 24th is 23", x.played(2), 23);
        due("the others are done", x.is(0), 23);
    }

    @Says(in = T, that = "loses SUM ; or speaks SUM ; (each once)")
    static void lawsOnce() {
        faultless("loses 1;speaks 1;");
        faultless("speaks 1;day 1;loses 1;day 1;");
        faulty("loses 1;loses 1;", 4, 8);
        faulty("speaks 1;loses 1;speaks 1;", 4, 17);
        faulty("loses 1;speaks 1;day 1; loses", 4, 24);
        DeltaNests x = new DeltaNests();
        read(x, "loses 1;");
        due("once in each text", read(x, "loses 1;"), 1);
    }

    @Says(in = T, that = "set NUMBER of NUMBER at NUMBER to NUMBER ; (FIELD, KEY, REPLICA, VALUE)"
        + " or clear NUMBER of NUMBER at NUMBER ; or reset NUMBER at NUMBER ; or send NUMBER to NUMBER ; or day NUMBER ;.")
    static void clausesInOrder() {
        DeltaNests x = new DeltaNests();
        read(x, "set 2 of 1 at 3 to 99;");
        read(x, "clear 2 of 1 at 3;");
        read(x, "set 0 of 3 at 2 to 7;reset 3 at 2;");
        read(x, "send 2 to 0;day 12;");
        x.played(0);
        due("field, key, replica, value", x.winner(3, 1, 2), 99);
        due("cleared", x.played(1), NONE);
        due("gone", x.entry(3, NONE, 0), 0);
        due("set, reset", x.played(2), NONE);
        due("key, replica", x.of(2, 0) * 10 + x.entry(2, NONE, 0), 20);
        due("sent, twelve ticks", x.played(3), NONE);
        due("it came", x.of(0, 3), 1);
        due("clock", x.is(0), 12);
    }

    @Says(in = T, that = "has ONE (how many ENTRIES the REPLICA of that number has; 0 for others), known ONE (how many DOTS it KNOWS),")
    static void hasAndKnown() {
        // In worthIs 0 has one of two dots, 1 one, 2 two of three, 3 nothing.
        worthIs("has 0 + 10 * has 1 + 100 * has 2 + 1000 * has 3", 211);
        worthIs("known 0 + 10 * known 1 + 100 * known 2 + 1000 * known 3", 312);
        worthIs("has 4 + has 5 + has 9999 + has (9999 * 9999) + known 4 + known 9999 + known (9999 * 9999)", 0);
        worthIs("has - 1 + known - 1 + has - (9999 * 9999) + known - 2", 0);
        worthIs("has - 0 + known - - 2", 4);
    }

    @Says(in = T, that = "NAMES: clock, sender, other (to which) in both; answer (1, 0), bulk (how many ENTRIES it has) in loses;"
        + " behind (how many DELTAS there were less what is ACKED) in speaks.")
    static void names() {
        faultless("loses clock+sender+other+answer+bulk;");
        faultless("speaks clock+sender+other+behind;");
        DeltaNests x = under("loses if answer = 0 then 0 else if answer = 1 then 10 else 5 end end;");
        x.set(0, 0, 0, 0);
        for (int i = 0; i < 10; i++) {
            x.send(0, 1);
        }
        due("no message is an answer", x.is(3), 0);
        x.day(2);
        due("all answers are", x.is(3), 10);
        for (int bulk = 0; bulk < 4; bulk++) {
            DeltaNests y = under("loses if bulk = " + bulk + " then 10 else 0 end;");
            for (int i = 0; i < 3; i++) {
                y.set(0, 0, i, 0);
                y.send(0, 1);
                due("bulk", y.is(3), bulk > 0 && i + 1 >= bulk ? 1 : 0);
            }
            int lost = y.is(3);
            y.day(2);
            due("an answer's is 0", y.is(3) - lost, bulk == 0 ? 3 : 0);
        }
        for (int bar = 0; bar < 4; bar++) {
            DeltaNests y = under("loses 0;speaks behind - " + bar + ";");
            for (int i = 1; i < 4; i++) {
                y.set(0, 0, i - 1, 0);
                due("behind", y.speaks(0, 1), i > bar);
            }
            sync(y, 0, 1);
            due("nothing behind", y.speaks(0, 1), false);
            y.set(0, 0, 0, 0);
            due("one behind", y.speaks(0, 1), bar < 1);
        }
    }

    @Says(in = T, that = "/ cuts towards 0, by 0 it is 0;")
    static void over() {
        worthIs("7 / 2 + 100 * (6 / 2) + 1000 * (5 / 6)", 303);
        worthIs("- 7 / 2", -3);
        worthIs("7 / - 2", -3);
        worthIs("- 7 / - 2", 3);
        worthIs("- 1 / 2", 0);
        worthIs("7 / 0", 0);
        worthIs("- 7 / 0 + 5", 5);
        worthIs("0 / 0", 0);
        worthIs("7 / (3 - 3) / 0", 0);
    }

    @Says(in = T, that = "what is above 1000000 (below the same less) is that, at each step.")
    static void millions() {
        worthIs("1000 * 1000 / 1000", 1000);
        worthIs("999 * 1001", 999999);
        worthIs("1000 * 1000 - 1", 999999);
        worthIs("999 * 1001 + 1 - 1", 999999);
        worthIs("999 * 1001 + 2 - 1", 999999);
        worthIs("1001 * 1000 - 1", 999999);
        worthIs("1000 * 1000 + 1 - 2", 999998);
        worthIs("9999 * 9999 * 9999 / 1000", 1000);
        worthIs("9999 * 9999 * 9999 * 9999 / 1000", 1000);
        worthIs("- 1000 * 1000 - 1 + 2", -999998);
        worthIs("0 - 9999 * 9999 - 9999 + 5", -999995);
        worthIs("- 9999 * 9999 / 1000", -1000);
        worthIs("- 9999 * 9999 * 9999 / 1000", -1000);
        worthIs("9999 * 9999 * - 9999 / 1000", -1000);
        worthIs("- (9999 * 9999) / 1000", -1000);
        worthIs("if 9999 * 9999 = 1000 * 1000 then 1 else 0 end", 1);
        worthIs("if 999 * 1001 = 1000 * 1000 then 1 else 0 end", 0);
        worthIs("if 9999 * 9999 > 1000 * 1000 then 1 else 0 end", 0);
        worthIs("if - 9999 * 9999 < - 1000 * 1000 then 1 else 0 end", 0);
    }

    @Says(in = T, that = "ASK: not ASK, or SUM one of < <= > >= = # (unlike) SUM.")
    static void relations() {
        String[] signs = {"<", "<=", ">", ">=", "=", "#"};
        for (int a = 4; a <= 6; a++) {
            boolean[] holds = {a < 5, a <= 5, a > 5, a >= 5, a == 5, a != 5};
            StringBuilder all = new StringBuilder("loses if 1=1");
            StringBuilder none = new StringBuilder("loses if 1=2");
            for (int i = 0; i < 6; i++) {
                all.append(" and ").append(holds[i] ? "" : "not ").append(a).append(signs[i]).append("5");
                none.append(" or ").append(holds[i] ? "not " : "").append(a).append(signs[i]).append("5");
                worthIs("if " + a + " " + signs[i] + " 5 then 1 else 0 end", holds[i] ? 1 : 0);
                worthIs("if not " + a + " " + signs[i] + " 5 then 1 else 0 end", holds[i] ? 0 : 1);
            }
            DeltaNests x = under(all + " then 10 else 0 end;");
            x.set(0, 0, 0, 0);
            x.send(0, 1);
            due("all of them hold", x.is(3), 1);
            DeltaNests y = under(none + " then 10 else 0 end;");
            y.set(0, 0, 0, 0);
            y.send(0, 1);
            due("none of them fails", y.is(3), 0);
        }
    }

    @Says(in = T, that = "or and and look at both sides always, of if just the SUM that is chosen is asked.")
    static void bothSides() {
        String[] ask = {"1 = 2", "1 = 1"};
        for (int a = 0; a < 2; a++) {
            for (int b = 0; b < 2; b++) {
                worthIs("if " + ask[a] + " or " + ask[b] + " then 1 else 0 end", a | b);
                worthIs("if " + ask[a] + " and " + ask[b] + " then 1 else 0 end", a & b);
                for (int c = 0; c < 2; c++) {
                    worthIs("if " + ask[a] + " or " + ask[b] + " and not " + ask[c] + " then 1 else 0 end", a | b & 1 - c);
                    worthIs("if " + ask[a] + " and " + ask[b] + " or " + ask[c] + " then 1 else 0 end", a & b | c);
                }
            }
        }
        worthIs("if 1 = 1 then 5 else 9999 * 9999 end", 5);
        worthIs("if 1 = 2 then 9999 * 9999 else 6 end", 6);
        worthIs("if 1 = 2 then 1 / 0 else if 1 = 1 then 7 else 1 / 0 end end + 1", 8);
    }

    @Says(in = T, that = "FAULTS, the first as TOKENS are come to, at the TOKEN's first byte (of the end at the length), of one the least:"
        + " 1 it can't stand there, or is none.")
    static void firstFaults() {
        faulty("day 0;day x;", 2, 4);
        faulty("day x;day 0;", 1, 4);
        faulty("  loses   behind ; loses 1;", 5, 10);
        faulty("loses if 1=2 or behind=1 then 1 else behind end;", 5, 16);
        faulty("loses if 1=2 and behind=1 then 1 else behind end;", 5, 17);
        faulty("loses if 1=2 or 1 then 1 else 1 end;", 1, 18);
        faulty("loses if 1=2 and 1 then 1 else 1 end;", 1, 19);
        faulty("loses if not 1 then 1 else 1 end;", 1, 15);
        String[] whole = {"set", " 1", " of", " 2", " at", " 3", " to", " 9", " ;"};
        StringBuilder part = new StringBuilder();
        for (String token : whole) {
            if (part.length() > 0) {
                faulty(part.toString(), 1, part.length());
                faulty(part + " \n", 1, part.length() + 2);
                faulty(part + " ?", 1, part.length() + 1);
                faulty(part + " day", 1, part.length() + 1);
            }
            part.append(token);
        }
        faultless(part.toString());
        faulty("x", 1, 0);
        faulty("behind", 1, 0);
        faulty("10000", 1, 0);
        // Of one TOKEN the least.
        faulty("day 1 10000;", 1, 6);
        faulty("set 1 10000", 1, 6);
        faulty("loses 1 behind;", 1, 8);
        faulty("loses ((((((((1 (", 1, 16);
        faulty("loses ((((((((1 if", 1, 16);
        faulty("day 1;".repeat(24) + "?", 1, 144);
        faulty("day 1;".repeat(24) + "of", 1, 144);
        faulty("loses 1;" + "day 1;".repeat(23) + "loses 1;", 4, 146);
    }

    @Says(in = T, that = "2 a NUMBER that isn't one of those told (above 9999; FIELDS 0 .. 2, KEYS, REPLICAS 0 .. 3, VALUES 0 .. 99, TICKS 1 .. 12).")
    static void numbersTold() {
        edgesOf("set ", 0, 2, " of 0 at 0 to 0;");
        edgesOf("set 0 of ", 0, 3, " at 0 to 0;");
        edgesOf("set 0 of 0 at ", 0, 3, " to 0;");
        edgesOf("set 0 of 0 at 0 to ", 0, 99, ";");
        edgesOf("clear ", 0, 2, " of 0 at 0;");
        edgesOf("clear 0 of ", 0, 3, " at 0;");
        edgesOf("clear 0 of 0 at ", 0, 3, ";");
        edgesOf("reset ", 0, 3, " at 0;");
        edgesOf("reset 0 at ", 0, 3, ";");
        edgesOf("send ", 0, 3, " to 0;");
        edgesOf("send 0 to ", 0, 3, ";");
        edgesOf("day ", 1, 12, ";");
        edgesOf("loses ", 0, 9999, ";");
        edgesOf("speaks - (has ", 0, 9999, ");");
    }

    /** A NUMBER's first and last are read, what is beyond is fault 2 at it. */
    private static void edgesOf(String ahead, int first, int last, String behind) {
        faultless(ahead + first + behind);
        faultless(ahead + last + behind);
        faulty(ahead + (last + 1) + behind, 2, ahead.length());
        faulty(ahead + "10000" + behind, 2, ahead.length());
        if (first > 0) {
            faulty(ahead + (first - 1) + behind, 2, ahead.length());
        }
        faulty(ahead + "x" + behind, 1, ahead.length());
    }

    @Says(in = T, that = "3 the 9th of ( not has known if and - (of one ONE) that are open around one another (at it).")
    static void ninthOfOneKind() {
        String[] tokens = {"(", "has ", "known ", "-"};
        for (String token : tokens) {
            String closed = token.equals("(") ? ")" : "";
            faultless("loses " + token.repeat(8) + "1" + closed.repeat(8) + ";");
            faulty("loses " + token.repeat(9) + "1" + closed.repeat(9) + ";", 3, 6 + 8 * token.length());
        }
        String[] ifs = {"if 1=1 then ", "if 1=1 then 1 else "};
        String[] ends = {" else 1 end", " end"};
        for (int i = 0; i < 2; i++) {
            faultless("loses " + ifs[i].repeat(8) + "1" + ends[i].repeat(8) + ";");
            faulty("loses " + ifs[i].repeat(9) + "1" + ends[i].repeat(9) + ";", 3, 6 + 8 * ifs[i].length());
        }
        String more = " then 1 else 1 end=1";
        faultless("loses " + "if ".repeat(8) + "1=1" + more.repeat(7) + " then 1 else 1 end;");
        faulty("loses " + "if ".repeat(9) + "1=1" + more.repeat(8) + " then 1 else 1 end;", 3, 30);
        faultless("loses if " + "not ".repeat(7) + "1=1 then 1 else 1 end;");
        faulty("loses if " + "not ".repeat(8) + "1=1 then 1 else 1 end;", 3, 37);
    }

    @Says(in = T, that = "3 the 9th of ( not has known if and - (of one ONE) that are open around one another (at it).")
    static void ninthOfAll() {
        String eight = "loses if not -(has known (-";
        String closed = ")) = 1 then 1 else 1 end;";
        faultless(eight + "1" + closed);
        for (String ninth : new String[] {"(", "has", "known", "-", "if"}) {
            faulty(eight + ninth + " 1" + closed, 3, eight.length());
        }
        // What is closed is open no more: beside one another there may be many.
        faultless("loses " + "(1)+".repeat(20) + "1;");
        faultless("loses " + "-1+".repeat(20) + "1;");
        faultless("loses " + "has 1+".repeat(12) + "known 1+".repeat(12) + "1;");
        faultless("loses if " + "not 1=1 and ".repeat(12) + "1=1 then 1 else 1 end;");
        faultless("loses if " + "not 1=1 or ".repeat(12) + "1=1 then 1 else 1 end;");
        faultless("loses " + "if 1=1 then 1 else 1 end+".repeat(10) + "1;");
        faultless("loses ((((((((1))))))))*((((((((1))))))));speaks ((((((((1))))))));");
        faultless("loses -------(1+2)-------(3);");
        faultless("loses if -------1=-------1 and -------1=-------1 then -------1 else -------1 end;");
        faulty("loses if -------1=--------1 then 1 else 1 end;", 3, 25);
        faulty("loses if 1=1 then --------1 else 1 end;", 3, 25);
        faulty("loses if 1=1 then 1 else --------1 end;", 3, 32);
        faultless("loses if not 1=1 then -------1 else -------1 end;");
        faulty("loses 1-(((((((((1)))))))));", 3, 16);
        faultless("loses 1-((((((((1))))))));");
        faultless("loses 1" + "-".repeat(9) + "1;");
        faulty("loses 1" + "-".repeat(10) + "1;", 3, 16);
    }

    @Says(in = T, that = "4 loses, speaks for the second time (at it).")
    static void secondLaw() {
        faulty("loses 1; loses behind;", 4, 9);
        faulty("speaks 1; loses 1;speaks;", 4, 18);
        faulty("loses 1;speaks 2;speaks 3;loses 4;", 4, 17);
        DeltaNests x = new DeltaNests();
        due("a text with a fault", read(x, "loses 1;loses behind;"), NONE);
        due("is as if it had not been", read(x, "loses 1;"), 0);
    }

    @Says(in = T, that = "5 a NAME that isn't of that CLAUSE (at it).")
    static void namesOfOthers() {
        for (String name : new String[] {"clock", "sender", "other"}) {
            faultless("loses " + name + ";speaks " + name + ";");
        }
        for (String name : new String[] {"answer", "bulk"}) {
            faultless("loses " + name + ";");
            faulty("speaks " + name + ";", 5, 7);
            faulty("speaks if 1 < has " + name + " then 1 else 1 end;", 5, 18);
            faulty("loses 1;speaks ((((((((" + name + "))))))));", 5, 23);
        }
        faultless("speaks behind;");
        faulty("loses behind;", 5, 6);
        faulty("speaks behind;loses -behind;", 5, 21);
        for (String name : new String[] {"clock", "sender", "other", "answer", "bulk", "behind"}) {
            faulty("day " + name + ";", 1, 4);
            faulty(name + ";", 1, 0);
            faulty("loses 1 " + name + ";", 1, 8);
        }
    }

    @Says(in = T, that = "6 the 25th CLAUSE (at its first TOKEN).")
    static void clause25() {
        String[] kinds = {"loses 1;", "speaks 1;", "set 0 of 0 at 0 to 0;", "clear 0 of 0 at 0;", "reset 0 at 0;", "send 0 to 0;", "day 1;"};
        for (String kind : kinds) {
            faultless("day 1;".repeat(23) + "  " + kind);
            faulty("day 1;".repeat(24) + "  " + kind, 6, 146);
            faulty("day 1;".repeat(24) + "\n" + kind.substring(0, 3) + " ", kind.startsWith("set") || kind.startsWith("day") ? 6 : 1, 145);
        }
        faulty("day 1;".repeat(23) + "loses 1;day 1;day 1;", 6, 146);
        faultless("day 1;".repeat(24) + "  \n ");
    }

    @Says(in = T, that = "loses: 0 at least, 10 at most; without: 3.")
    static void boundsOfLoses() {
        String[] laws = {"loses 0 - 1;", "loses 0 - 9999 * 9999;", "loses 0;", "loses 1;", "loses 3;", "speaks 0;", "loses 9;", "loses 10;",
            "loses 11;", "loses 9999 * 9999;"};
        int[] below = {0, 0, 0, 1, 3, 3, 9, 10, 10, 10};
        for (int i = 0; i < laws.length; i++) {
            DeltaNests x = under(laws[i]);
            losesBelow(x, below[i]);
        }
        DeltaNests x = under("loses 10;");
        x.by(NONE);
        losesBelow(x, 3);
    }

    private static void losesBelow(DeltaNests x, int bar) {
        x.set(0, 0, 0, 0);
        int[] seen = new int[10];
        for (int i = 0; i < 24; i++) {
            int draw = x.is(1) % 10;
            int lost = x.is(3);
            seen[draw]++;
            x.send(0, 1);
            due("a draw of " + draw + " below " + bar, x.is(3) - lost, draw < bar ? 1 : 0);
        }
        due("all draws at the edges were seen", seen[0] > 0 && seen[1] > 0 && seen[2] > 0 && seen[3] > 0 && seen[8] > 0 && seen[9] > 0, true);
    }

    @Says(in = T, that = "speaks: above 0 it lets; without: it does not.")
    static void boundsOfSpeaks() {
        String[] laws = {"speaks 0 - 9999 * 9999;", "speaks 0 - 1;", "speaks 0;", "speaks 1;", "speaks 9999 * 9999;", "loses 0;"};
        for (int i = 0; i < laws.length; i++) {
            DeltaNests x = under(laws[i]);
            x.set(0, 0, 0, 0);
            boolean lets = i == 3 || i == 4;
            due(laws[i], x.speaks(0, 1), lets);
            x.day(1);
            due(laws[i], x.is(2), lets ? 3 : 0);
            x.by(NONE);
            due("without", x.speaks(0, 1), false);
            x.day(1);
            due("without", x.is(2), lets ? 3 : 0);
        }
    }

    @Says(in = T, that = "one that can't be ends it (of so many TICKS those that can pass do): its number among all CLAUSES (from 0); what was done stays.")
    static void endOfPlayed() {
        DeltaNests x = new DeltaNests();
        read(x, "reset 0 at 0;day 1;");
        due("the first", x.played(0), 0);
        due("no more is done", x.is(0), 0);
        read(x, "loses 1;day 1;speaks 1;set 0 of 0 at 0 to 1;send 0 to 0;day 1;");
        due("laws are counted", x.played(1), 4);
        due("what was done stays", x.is(0) * 100 + x.values(0, 0, 0, 0), 101);
        due("so do steps", x.about(2), 2);
        String[] cannot = {"clear 0 of 1 at 0;", "reset 1 at 0;", "send 1 to 0;", "send 1 to 1;"};
        for (String clause : cannot) {
            x.image();
            due("read", read(x, "day 2;" + clause + "day 1;"), 2);
            due(clause, x.played(2), 1);
            due("the days ahead stay", x.is(0), 3);
            x.back();
        }
        for (int left = 0; left <= 13; left++) {
            DeltaNests y = new DeltaNests();
            read(y, "speaks 0;day 12;");
            pass(y, 9999 - left);
            due("twelve ticks", y.played(0), left >= 12 ? NONE : 1);
            due("those that can pass do", y.is(0), Math.min(9999, 9999 - left + 12));
            due("each is a step", y.undo() >= 0 && y.is(0) == (left == 0 ? 9998 : Math.min(9999, 9999 - left + 12) - 1), true);
        }
    }

    // III. What is asked.

    @Says(in = T, that = "from 0 on, ENTRY by ENTRY by DOTS: 31 times it and (101 times its REPLICA and 7 times its number and 5 times KEY"
        + " and 3 times FIELD and VALUE), mod 9973.")
    static void digests() {
        DeltaNests x = new DeltaNests();
        due("from 0 on", x.digest(0), 0);
        x = full();
        int digest = 0;
        for (int i = 0; i < x.entry(3, NONE, 0); i++) {
            int entry = 101 * x.entry(3, i, 0) + 7 * x.entry(3, i, 1) + 5 * x.entry(3, i, 2) + 3 * x.entry(3, i, 3) + x.entry(3, i, 4);
            digest = (31 * digest + entry) % 9973;
        }
        due("of 45 entries", x.digest(3), digest);
        DeltaNests y = lossless();
        for (int n = 1; n <= 63; n++) {
            y.set(3, 3, 2, 99);
        }
        int last = 303 + 441 + 15 + 6 + 99;
        due("the greatest entry", y.digest(3), last);
        y.set(0, 3, 2, 99);
        y.set(2, 3, 2, 99);
        sync(y, 0, 3);
        sync(y, 2, 3);
        int three = ((7 + 120) * 31 + 202 + 7 + 120) % 9973 * 31 + last;
        due("of three", y.digest(3), three % 9973);
    }

    @Says(in = T, that = "FORETOLD behind n TICKS (1 .. 12; those that can pass), nothing else being done.")
    static void foretoldTicks() {
        DeltaNests x = under("loses 0;speaks behind;");
        x.set(0, 1, 2, 50);
        edges(x, "foretold", NONE, new int[] {1, 0}, new int[] {1, 12}, new int[] {0, 3});
        due("as it is", x.foretold(1, 1), 0);
        due("nobody has it ahead of that", x.foretold(2, 1), 0);
        due("spoken at one, come at three", x.foretold(3, 1), 68);
        due("nothing is done", x.is(0) * 10 + x.about(2), 1);
        for (int left = 0; left <= 3; left++) {
            DeltaNests y = lossless();
            pass(y, 9999 - left);
            y.set(0, 1, 2, 50);
            y.send(0, 1);
            due("those that can pass", y.foretold(12, 1), left >= 2 ? 68 : 0);
            due("fewer", y.foretold(1, 1), 0);
            due("two", y.foretold(2, 1), left >= 2 ? 68 : 0);
        }
    }

    @Says(in = T, that = "THE DIFFERENCE of a from b: PARTS of a that b hasn't: ENTRIES whose DOTS b doesn't KNOW; DOTS of a's that are gone there,"
        + " that b doesn't KNOW, or whose ENTRY b has.")
    static void differences() {
        DeltaNests x = lossless();
        due("of nothing", x.unlike(0, 1), 0);
        x.set(0, 0, 0, 0);
        due("an entry whose dot it doesn't know", x.unlike(0, 1), 1);
        sync(x, 0, 1);
        due("an entry both have", x.unlike(0, 1) + x.unlike(1, 0), 0);
        x.clear(0, 0, 0);
        due("gone there, which it has", x.unlike(0, 1), 1);
        due("an entry whose dot it knows", x.unlike(1, 0), 0);
        due("gone, which it doesn't know", x.unlike(0, 2), 1);
        x.clear(1, 0, 0);
        due("gone in both", x.unlike(0, 1) + x.unlike(1, 0), 0);
    }

    @Says(in = T, that = "SPARED: ENTRIES of a KEY in ALL JOINED that would be there yet, were that KEY RESET at that REPLICA now.")
    static void sparedOnes() {
        DeltaNests x = alikeOnes();
        due("all seen: none", x.spared(0, 1), 0);
        due("one more", x.set(3, 1, 1, 5), 13);
        due("unseen: it alone", x.spared(0, 1), 1);
        due("its own sees it", x.spared(3, 1), 0);
        due("another key's are none", x.spared(0, 2), 0);
        DeltaNests y = lossless();
        y.set(0, 1, 0, 0);
        y.set(1, 1, 0, 0);
        sync(y, 1, 2);
        y.clear(2, 1, 0);
        due("what is gone in all joined is not there", y.spared(3, 1), 1);
        due("nor here", y.spared(0, 1), 0);
    }

    @Says(in = T, that = "THE WINNER of a KEY and FIELD: of its ENTRIES there the VALUE of the greatest number (of like ones of the highest REPLICA).")
    static void winners() {
        DeltaNests x = lossless();
        due("none", x.winner(0, 0, 0), NONE);
        for (int r = 0; r < 4; r++) {
            x.set(r, 0, 0, 10 * r);
            x.set(r, 1, 1, 10 * (3 - r));
        }
        for (int r = 1; r < 4; r++) {
            x.send(r, 0);
            x.day(2);
            due("like numbers: the highest replica", x.winner(0, 0, 0), 10 * r);
            due("not the greatest value", x.winner(0, 1, 1), 10 * (3 - r));
        }
        x.set(1, 0, 0, 7);
        sync(x, 1, 0);
        due("the greatest number", x.winner(0, 0, 0), 7);
        due("the other field as it was", x.winner(0, 1, 1), 0);
        for (int n = 4; n <= 63; n++) {
            x.set(1, 2, 2, n);
            due("up to 63", x.winner(1, 2, 2), n);
        }
    }

    @Says(in = T, that = "TORN: how many KEYS and FIELDS have ENTRIES more than one there.")
    static void tornOnes() {
        DeltaNests x = alikeOnes();
        due("all twelve", x.torn(0), 12);
        for (int i = 0; i < 12; i++) {
            x.set(0, i / 3, i % 3, 0);
            due("one is not torn", x.torn(0), 11 - i);
        }
        due("there", x.torn(1), 12);
        x.clear(1, 0, 0);
        due("none is not torn", x.torn(1), 11);
        DeltaNests y = lossless();
        y.set(0, 0, 0, 0);
        y.set(1, 0, 0, 0);
        due("one each", y.torn(0) + y.torn(1), 0);
        sync(y, 1, 0);
        due("two are more than one", y.torn(0), 1);
    }

    @Says(in = T, that = "FRESHEST: the REPLICA that KNOWS most; of like ones the lowest.")
    static void freshestOnes() {
        DeltaNests x = new DeltaNests();
        due("of like ones", x.freshest(), 0);
        for (int r = 3; r >= 0; r--) {
            x.set(r, 0, 0, 0);
            due("the lowest of like ones", x.freshest(), r);
        }
        x.set(2, 0, 0, 0);
        due("one more", x.freshest(), 2);
        x.clear(2, 0, 0);
        due("dots, not entries", x.freshest(), 2);
    }

    @Says(in = T, that = "QUIET: nothing is IN FLIGHT and nobody has anything to send.")
    static void quietOnes() {
        due("a new object", new DeltaNests().quiet(), true);
        // All is acked, but what was sent first comes last.
        DeltaNests x = lossless();
        x.set(0, 0, 0, 0);
        x.delay(9);
        x.send(0, 3);
        x.delay(1);
        for (int i = 0; i < 16; i++) {
            x.send(i / 4, i % 4);
        }
        x.day(2);
        for (int i = 0; i < 16; i++) {
            x.send(i / 4, i % 4);
        }
        x.day(2);
        due("one is in flight", x.flight(NONE, 0), 1);
        for (int i = 0; i < 16; i++) {
            due("nobody has anything to send", x.send(i / 4, i % 4), NONE);
        }
        due("not yet quiet", x.quiet(), false);
        x.day(5);
        due("its answer is in flight", x.flight(0, 3), 1);
        due("not yet quiet", x.quiet(), false);
        x.day(1);
        due("quiet", x.quiet(), true);
        DeltaNests y = lossless();
        y.set(3, 0, 0, 0);
        y.send(3, 0);
        y.send(3, 1);
        y.send(3, 2);
        y.day(4);
        for (int from = 0; from < 3; from++) {
            for (int to = 0; to < 4; to++) {
                due("one has something to send yet", y.quiet(), false);
                y.send(from, to);
            }
        }
        y.day(3);
        due("answers are in flight", y.quiet(), false);
        y.day(1);
        due("quiet", y.quiet(), true);
    }

    @Says(in = T, that = "TILL QUIET: behind how many TICKS (beyond 9999, too; 0: it is).")
    static void tillQuiet() {
        DeltaNests x = under("loses 0;speaks behind;");
        due("it is", x.till(), 0);
        x.set(0, 0, 0, 0);
        int till = x.till();
        due("not ahead of it", x.day(till - 1) > 0 && !x.quiet(), true);
        due("one tick more", x.till(), 1);
        x.day(1);
        due("it is", x.till(), 0);
        for (int first = 60 - till; first <= 63 - till; first++) {
            DeltaNests y = under("loses 0;speaks if clock > " + first + " then 1 else 0 end;");
            y.set(0, 0, 0, 0);
            due("60, and not by 60", y.till(), first + till <= 60 ? first + till : NONE);
            y.day(1);
            due("a tick later", y.till(), first + till <= 61 ? first + till - 1 : NONE);
        }
        for (int left = 0; left < 3; left++) {
            DeltaNests z = under("loses 0;speaks behind;");
            pass(z, 9999 - left);
            z.set(0, 0, 0, 0);
            due("beyond 9999, too", z.till(), till);
        }
    }

    // IV. Whose law it was, and the book's kinds.

    @Says(in = T, that = "(told: SAID, 8 at most: from, to, behind, whether speaks lets it (1, 0))")
    static void sayings() {
        DeltaNests x = new DeltaNests();
        read(x, "speaks behind - 4;");
        for (int i = 1; i <= 8; i++) {
            due("said", x.said(3, 0, i, i > 4 ? 1 : 0), i);
            due("all of them fit", x.whose(), 1);
        }
        refused(x, "said", -2, new int[] {0, 1, 4, 0}, new int[] {3, 0, 99, 1});
        due("the ninth counts not", x.whose(), 1);
        due("none any more", x.said(NONE, 0, 0, 0), 0);
        for (int wrong = 1; wrong <= 8; wrong++) {
            x.said(NONE, 0, 0, 0);
            for (int i = 1; i <= 8; i++) {
                x.said(3, 0, i, i > 4 == (i != wrong) ? 1 : 0);
            }
            due("one that is not so", x.whose(), 0);
        }
    }

    @Says(in = T, that = "TEXTS (bits) by whose speaks (a TEXT without it: by what is so without) all are so (all else as now).")
    static void whoseBits() {
        DeltaNests x = new DeltaNests();
        due("no texts", x.whose(), 0);
        for (int text = 0; text < 4; text++) {
            read(x, text % 2 == 0 ? "speaks behind;" : "loses 0;");
            due("nothing said: all", x.whose(), (2 << text) - 1);
        }
        x.said(0, 1, 0, 0);
        due("0 is not above 0; without none is let", x.whose(), 15);
        x.said(0, 1, 1, 1);
        due("by a law alone", x.whose(), 5);
        x.said(NONE, 0, 0, 0);
        x.said(0, 1, 1, 0);
        due("without alone", x.whose(), 10);
        x.said(0, 1, 1, 1);
        due("none", x.whose(), 0);
        x.by(0);
        due("whatever rules", x.whose(), 0);
    }

    @Says(in = T, that = "BY THE BOOK: how many lines there are of a kind.")
    static void linesOfKinds() {
        DeltaNests x = new DeltaNests();
        for (int i = 0; i < 10; i++) {
            x.set(0, 0, 0, 0);
            x.clear(0, 0, 0);
            x.set(0, 1, 0, 0);
            x.reset(0, 1);
            int all = 0;
            for (int kind = 0; kind < 5; kind++) {
                all += x.ledger(kind);
            }
            due("all lines are of a kind", all, x.book(NONE, 0));
        }
        due("the latest 25: sets, clears, resets", x.ledger(0) * 10000 + x.ledger(1) * 100 + x.ledger(2), 120607);
    }

    // V. Years, and the image.

    @Says(in = T, that = "X is SEED (0 .. 9999) * 2 + 509; n times (1 .. 24): x is X, then X is anew (as in a draw):")
    static void seedsAndTimes() {
        DeltaNests x = new DeltaNests();
        edges(x, "years", NONE, new int[] {0, 1}, new int[] {0, 9999}, new int[] {1, 24});
        x.back();
        for (int seed : new int[] {0, 9999}) {
            // 509 and 20507 are 5 and 3 by 8: nothing can be done in a new object.
            int first = seed * 2 + 509;
            due("clock", x.years(seed, 1), 0);
            due("x is anew", x.is(1), drawn(first));
            due("a step", x.about(2), 1);
            due("taken back", x.undo(), 0);
            due("x", x.is(1), 509);
        }
        for (int n : new int[] {1, 2, 23, 24}) {
            DeltaNests y = lossless();
            DeltaNests z = lossless();
            due("as told by hand", y.years(9999, n), tellYears(z, 9999, n));
            due("as told by hand", y.all(2), z.all(2));
            due("as told by hand", y.all(1), z.all(1));
        }
    }

    @Says(in = T, that = "x mod 8: 0 to 2 VALUE x mod 100 is SET at REPLICA x / 8 mod 4, KEY x / 32 mod 4, FIELD x mod 3; 3 that KEY is RESET there;"
        + " 4, 5 SENT from REPLICA x / 8 mod 4 to the one x / 32 mod 3 and 1 further on, around; 6, 7 a TICK (each if it can be; else nothing).")
    static void kindsOfYears() {
        int[] kinds = new int[8];
        int[] around = new int[16];
        for (int seed = 0; seed < 700; seed += 5) {
            DeltaNests x = alikeOnes();
            DeltaNests y = alikeOnes();
            int one = seed * 2 + 509;
            int n = seed % 3 == 0 ? 1 : 2;
            x.years(seed, n);
            tellYears(y, seed, n);
            kinds[one % 8]++;
            if (n == 2 && one % 8 == 1) {
                kinds[drawn(one) % 8]++;
            }
            if (one % 8 == 5) {
                around[one / 8 % 4 * 4 + (one / 8 + one / 32 % 3 + 1) % 4]++;
            }
            for (int r = 0; r < 4; r++) {
                due("digest", x.digest(r), y.digest(r));
                due("dots", x.parts(r), y.parts(r));
                due("deltas", x.of(r, 0), y.of(r, 0));
                due("in flight", x.flight(n - 1, r), y.flight(n - 1, r));
            }
            due("clock", x.is(0), y.is(0));
            due("sent", x.is(2), y.is(2));
        }
        for (int kind = 0; kind < 8; kind++) {
            due("kind " + kind + " was drawn", kinds[kind] > 0, true);
        }
        int ways = 0;
        for (int i = 0; i < 16; i++) {
            ways += around[i] > 0 ? 1 : 0;
        }
        due("ways of messages", ways > 4, true);
    }

    @Says(in = T, that = "6, 7 a TICK (each if it can be; else nothing).")
    static void yearsThatCannotBe() {
        // The first draws of these seeds: 1 mod 8 sets at 2, 3 resets, 5 sends, 7 ticks.
        DeltaNests x = new DeltaNests();
        int seed = 0;
        while ((seed * 2 + 509) % 8 != 1 || (seed * 2 + 509) / 8 % 4 != 2) {
            seed++;
        }
        for (int n = 1; n <= 62; n++) {
            x.set(2, 0, 0, n);
        }
        x.years(seed, 1);
        due("the 63rd", x.of(2, 0), 63);
        x.years(seed, 1);
        due("no 64th", x.of(2, 0), 63);
        due("x is anew all the same", x.is(1), drawn(seed * 2 + 509));
        due("steps", x.about(2), 30);
        DeltaNests y = new DeltaNests();
        for (int kind = 3; kind <= 7; kind += 2) {
            int s = kind == 3 ? 1 : kind == 5 ? 0 : 1;
            while ((s * 2 + 509) % 8 != kind) {
                s++;
            }
            y.years(s, 1);
            due("x is anew", y.is(1), drawn(s * 2 + 509));
            due("nothing is reset, nothing sent, a tick", y.is(0) * 10 + y.is(2), kind == 7 ? 10 : 0);
        }
        due("nothing is written", y.book(NONE, 0), 0);
        due("three steps", y.about(2), 3);
        pass(y, 9999);
        due("no tick", y.years(1, 1), 9999);
        due("all of 24 years at the end", y.years(5, 24), 9999);
    }

    @Says(in = T, that = "It is one STEP: CLOCK.")
    static void yearsAreOneStep() {
        DeltaNests x = new DeltaNests();
        int clock = 0;
        for (int i = 1; i <= 35; i++) {
            int now = x.years(i * 31, 24);
            due("clock", now, x.is(0));
            due("not back", now >= clock, true);
            due("one step each", x.about(2), Math.min(30, i));
            clock = now;
        }
        for (int left = 29; left >= 0; left--) {
            due("taken back", x.undo(), left);
        }
        due("no more", x.undo(), NONE);
        DeltaNests y = new DeltaNests();
        for (int i = 1; i <= 5; i++) {
            y.years(i * 31, 24);
        }
        due("as behind five of them", y.all(2) == x.all(2) && y.is(0) == x.is(0) && y.is(1) == x.is(1), true);
    }

    @Says(in = T, that = "AN IMAGE: all as it is, but the tape and the latest FAULT. BACK: all is so again.")
    static void imageAndBack() {
        DeltaNests x = under("loses 0;speaks behind - 1;");
        x.set(0, 0, 0, 0);
        x.years(77, 24);
        x.said(0, 1, 1, 0);
        x.delay(7);
        read(x, "day 13;");
        tape(x, "day");
        int clock = x.image();
        String before = world(x);
        for (int i = 0; i < 40; i++) {
            x.years(i, 24);
        }
        x.said(NONE, 0, 0, 0);
        x.delay(1);
        x.by(NONE);
        read(x, "loses 1;loses 1;");
        tape(x, "day 12;");
        due("back", x.back(), clock);
        due("all is so again", world(x).equals(before), true);
        due("texts, the text, said, delay", x.about(0) * 1000 + x.about(1) * 100 + x.about(3) * 10 + x.about(5), 1017);
        due("the tape stays", x.about(4), 7);
        due("the fault stays", x.fault(0) * 10 + x.fault(1), 48);
        due("steps", x.about(2), 2);
        due("taken back", x.undo(), 1);
        due("taken back", x.undo(), 0);
    }

    @Says(in = T, that = "AN IMAGE: all as it is, but the tape and the latest FAULT. BACK: all is so again.")
    static void imageOfSteps() {
        // More than 30 steps ahead of the image, and more than 30 others behind it.
        DeltaNests x = new DeltaNests();
        for (int i = 0; i < 45; i++) {
            x.set(i % 4, 0, 0, i);
        }
        x.image();
        x.day(12);
        x.day(12);
        x.day(12);
        x.undo();
        for (int round = 0; round < 2; round++) {
            x.back();
            for (int i = 44; i > 14; i--) {
                due("the value", x.values(i % 4, 0, 0, 0), i);
                due("taken back", x.undo(), i - 15);
                due("the one ahead of it", x.values(i % 4, 0, 0, 0), i - 4);
            }
            due("no more", x.undo(), NONE);
            x.day(12);
        }
    }

    @Says(in = T, that = "AN IMAGE: all as it is, but the tape and the latest FAULT. BACK: all is so again.")
    static void imageOfTexts() {
        DeltaNests x = new DeltaNests();
        for (int text = 0; text < 3; text++) {
            read(x, "day " + (text + 1) + ";speaks behind - " + text + ";");
        }
        x.said(0, 1, 1, 1);
        x.image();
        x.said(NONE, 0, 0, 0);
        x.said(0, 1, 1, 0);
        read(x, "day 4;");
        due("others are said", x.whose(), 14);
        x.back();
        due("three texts", x.about(0), 3);
        due("what was said", x.whose(), 1);
        due("another fourth one", read(x, "day 5;"), 3);
        x.back();
        for (int text = 0; text < 3; text++) {
            int clock = x.is(0);
            due("played", x.played(text), NONE);
            due("each as it was", x.is(0) - clock, text + 1);
        }
        due("no fourth", x.played(3), -2);
        // An image without texts, then with others of their numbers.
        DeltaNests y = new DeltaNests();
        read(y, "day 7;");
        y.back();
        due("none", y.about(0), 0);
        read(y, "day 9;");
        y.image();
        y.back();
        due("played", y.played(0), NONE);
        due("the later one", y.is(0), 9);
    }

    @Says(in = T, that = "the latest 30 can be taken back, the latest first")
    static void eachKindTakenBack() {
        DeltaNests x = lossless();
        read(x, "clear 0 of 0 at 0;");
        for (int kind = 0; kind < 7; kind++) {
            x.set(0, 0, 0, kind);
            x.set(0, 0, 1, kind + 1);
            String before = brief(x);
            int steps = x.about(2);
            if (kind == 0) {
                x.clear(0, 0, 0);
            } else if (kind == 1) {
                x.reset(0, 0);
            } else if (kind == 2) {
                x.send(0, 1);
            } else if (kind == 3) {
                x.day(1);
            } else if (kind == 4) {
                x.years(5, 24);
            } else if (kind == 5) {
                x.played(1);
            } else {
                x.set(0, 3, 2, 99);
            }
            due("one step", x.about(2), steps + 1);
            due("taken back", x.undo(), steps);
            due("all is as ahead of it", brief(x).equals(before), true);
        }
    }
}
