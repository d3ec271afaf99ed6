import java.lang.reflect.Method;

/** One method for each promise of the document: ordinary inputs, its edges, wrong inputs. */
public final class PromisesTest extends Checks {
    public static void main(String[] args) throws Exception {
        for (int n = 1; n <= 53; n++) {
            at = "promise " + n;
            Method method = PromisesTest.class.getDeclaredMethod("p" + n);
            int before = checks;
            method.invoke(null);
            due("has checks", checks > before, true);
        }
        at = "constants";
        due("NONE", DeltaNests.NONE, -1);
        System.out.println(wrong == 0 ? "promises: all " + checks + " checks hold" : "promises: " + wrong + " checks fail");
        if (wrong != 0) {
            System.exit(1);
        }
    }

    static void p1() {
        DeltaNests x = new DeltaNests();
        for (int pass = 0; pass < 2; pass++) {
            for (int r = 0; r < 4; r++) {
                due("entries", x.entry(r, NONE, 0), 0);
                due("deltas", x.delta(r, NONE, 0), 0);
                for (int what = 0; what < 4; what++) {
                    due("of", x.of(r, what), 0);
                    due("context", x.context(r, what), 0);
                    due("acked", x.acked(r, what), r == what ? NONE : 0);
                }
            }
            int[] about = {0, NONE, 0, 0, 0, 2};
            for (int what = 0; what < 6; what++) {
                due("about " + what, x.about(what), about[what]);
            }
            due("clock", x.is(0), 0);
            due("x", x.is(1), 509);
            due("sent", x.is(2), 0);
            due("lost", x.is(3), 0);
            due("flight", x.flight(NONE, 0), 0);
            due("book", x.book(NONE, 0), 0);
            due("quiet", x.quiet(), true);
            due("undo", x.undo(), NONE);
            x.set(0, 0, 0, 0);
            x.send(0, 1);
            x.day(12);
            x.delay(9);
            read(x, "loses 0;");
            x.by(0);
            x.said(0, 1, 1, 1);
            due("back to the new one", x.back(), 0);
        }
    }

    static void p2() {
        DeltaNests x = new DeltaNests();
        for (int i = 1; i <= 15; i++) {
            due("feed", x.feed(0x20202020, 0x20202020, 0x20202020, 0x20202020, 0x20202020), 20 * i);
        }
        due("feed beyond 300", x.feed(1, 2, 3, 4, 5), NONE);
        due("none came", x.about(4), 300);
        due("end", x.end(281), 281);
        due("feed beyond 300", x.feed(1, 2, 3, 4, 5), NONE);
        due("end", x.end(280), 280);
        // "day 1;day 2;day 3;xy" in the order of the bytes
        due("feed", x.feed(0x64617920, 0x313b6461, 0x7920323b, 0x64617920, 0x333b7879), 300);
        due("text", x.text(), NONE);
        due("fault", x.fault(0), 1);
        due("place", x.fault(1), 298);
        due("high bytes", x.feed(0xffffffff, 0, 0, 0, 0), 20);
        due("text", x.text(), NONE);
        due("place", x.fault(1), 0);
    }

    static void p3() {
        DeltaNests x = new DeltaNests();
        due("end(0)", x.end(0), 0);
        due("end(1)", x.end(1), NONE);
        x.feed(0, 0, 0, 0, 0);
        due("end(21)", x.end(21), NONE);
        due("end(-1)", x.end(-1), NONE);
        due("end(MIN)", x.end(MIN), NONE);
        due("end(MAX)", x.end(MAX), NONE);
        due("nothing done", x.about(4), 20);
        due("end(20)", x.end(20), 20);
        due("end(7)", x.end(7), 7);
        due("end(8)", x.end(8), NONE);
        due("feed behind", x.feed(0, 0, 0, 0, 0), 27);
    }

    static void p4() {
        DeltaNests x = new DeltaNests();
        due("no bytes", x.text(), 0);
        due("text", read(x, "day 1;"), 1);
        due("empty then", x.about(4), 0);
        due("fault", read(x, "day 1"), NONE);
        due("empty then, too", x.about(4), 0);
        due("text", read(x, "loses 1;"), 2);
        due("text", read(x, "speaks 1;"), 3);
        due("four", read(x, "x"), NONE);
        due("the tape stays", x.about(4), 1);
        due("nothing was read", x.fault(0), 0);
        due("texts", x.about(0), 4);
        grammar();
        sums();
    }

    private static void grammar() {
        faultless("set 0 of 0 at 0 to 0;set 2 of 3 at 3 to 99;clear 2 of 3 at 3;reset 3 at 3;send 3 to 3;day 12;");
        faultless("set0of0at0to0;set2of3at3to99;");
        faultless(" \n\n day\n012 ; ");
        faultless("loses clock + sender * other - answer / bulk;speaks clock+sender+other+behind;");
        faultless("loses if not 1 < 2 or 1 <= 2 and 3 > 4 or 1 >= 2 or not not 1 = 2 or 1 # 2 then 1 else if 1=1 then 2 else 3 end end;");
        faultless("loses ((((((((1))))))))+((((((((1))))))));speaks 9999;");
        faultless("loses if not has known - ( if 1 < has 1 then 1 else 2 end ) < 2 then 1 else 2 end;");
        StringBuilder days = new StringBuilder();
        for (int i = 0; i < 24; i++) {
            days.append("day 1;");
        }
        faultless(days.toString());
        faultless(days.substring(6) + "loses 1;");
        faulty(days + "day 1;", 6, 144);
        faulty(days + "x", 1, 144);
        faulty(days.substring(6) + "loses 1; loses 2;", 4, 147);
        faulty(days.substring(6) + "loses 1; speaks 2;", 6, 147);
        StringBuilder full = new StringBuilder("loses 1");
        while (full.length() < 299) {
            full.append("+1");
        }
        faultless(full.append(";").toString());
    }

    private static void sums() {
        worthIs("7", 7);
        worthIs("2 + 3 * 4 - 6 / 4", 13);
        worthIs("2 - 3 - 4", -5);
        worthIs("100 / 10 / 5", 2);
        worthIs("7 * 3 / 2", 10);
        worthIs("- 7 / 2", -3);
        worthIs("7 / - 2", -3);
        worthIs("7 / 0", 0);
        worthIs("2 * - - 3", 6);
        worthIs("- (1 + 2)", -3);
        worthIs("9999 * 9999 - 1", 999999);
        worthIs("- 9999 * 9999 + 1", -999999);
        worthIs("1000 * 1000 + 9999 - 9999", 990001);
        worthIs("clock", 12);
        worthIs("sender * 100 + other * 10 + behind", 237);
        worthIs("has 2", 2);
        worthIs("known 2", 3);
        worthIs("has 1 * 10 + known 1", 11);
        worthIs("has 4 + known 4 + has - 1 + known - 1", 0);
        worthIs("has 3 + known 3", 0);
        worthIs("has 0 * 10 + known 0", 12);
        worthIs("has (1 + 1)", 2);
        worthIs("if 1 < 2 then 5 else 6 end", 5);
        worthIs("if 2 < 2 then 5 else 6 end", 6);
        worthIs("if 2 <= 2 then 5 else 6 end", 5);
        worthIs("if 3 <= 2 then 5 else 6 end", 6);
        worthIs("if 2 > 2 then 5 else 6 end", 6);
        worthIs("if 3 > 2 then 5 else 6 end", 5);
        worthIs("if 2 >= 2 then 5 else 6 end", 5);
        worthIs("if 1 >= 2 then 5 else 6 end", 6);
        worthIs("if 1 = 2 then 5 else 6 end", 6);
        worthIs("if 1 + 1 = 2 then 5 else 6 end", 5);
        worthIs("if 1 # 2 then 5 else 6 end", 5);
        worthIs("if 2 # 2 then 5 else 6 end", 6);
        worthIs("if not 1 = 1 then 5 else 6 end", 6);
        worthIs("if not not 1 = 1 then 5 else 6 end", 5);
        worthIs("if 1 = 1 or 1 = 1 and 1 = 2 then 5 else 6 end", 5);
        worthIs("if 1 = 2 and 1 = 1 or 1 = 1 then 5 else 6 end", 5);
        worthIs("if not 1 = 1 or 1 = 1 then 5 else 6 end", 5);
        worthIs("if 1 = 1 and 1 = 2 then 5 else 6 end", 6);
        worthIs("1 + if 1 = 2 then 5 else if 1 = 1 then 7 else 8 end end * 2", 15);
    }

    static void p5() {
        DeltaNests x = new DeltaNests();
        due("ahead of any", x.fault(0), NONE);
        due("ahead of any", x.fault(1), NONE);
        read(x, "day 1;day 13;");
        due("fault", x.fault(0), 2);
        due("place", x.fault(1), 10);
        due("others", x.fault(2), NONE);
        due("others", x.fault(-1), NONE);
        read(x, "day 1;");
        due("without", x.fault(0), 0);
        due("without", x.fault(1), NONE);
        faulty("day", 1, 3);
        faulty("day  ", 1, 5);
        faulty("day 1;;", 1, 6);
        faulty("day x;", 1, 4);
        faulty("1", 1, 0);
        faulty("Day 1;", 1, 0);
        faulty("days 1;", 1, 0);
        faulty("dayz 1;", 1, 0);
        faulty("dayZ 1;", 1, 0);
        faulty("dayA 1;", 1, 0);
        faulty("daya 1;", 1, 0);
        faulty("da 1;", 1, 0);
        faulty("day_ 1;", 1, 3);
        faulty("day [;", 1, 4);
        faulty("day 1:", 1, 5);
        faulty("day 1/", 1, 5);
        faulty("day\t1;", 1, 3);
        faulty("day 0;", 2, 4);
        faulty("day 123456789012345678901234567890;", 2, 4);
        faulty("day 1 day 2;", 1, 6);
        faulty("set 3 of 0 at 0 to 0;", 2, 4);
        faulty("set 0 to 0 at 0 to 0;", 1, 6);
        faulty("set 0 of 0 at 0 at 0;", 1, 16);
        faulty("set 0 of 0 at 0 to 100;", 2, 19);
        faulty("set 0 of 0 at 0;", 1, 15);
        faulty("set 0 of 4 at 0 to 0;", 2, 9);
        faulty("set 0 of 0 at 4 to 0;", 2, 14);
        faulty("reset 4 at 0;", 2, 6);
        faulty("reset 0 at 4;", 2, 11);
        faulty("clear 3 of 0 at 0;", 2, 6);
        faulty("clear 0 of 4 at 0;", 2, 11);
        faulty("clear 0 of 0 at 4;", 2, 16);
        faulty("send 4 to 0;", 2, 5);
        faulty("send 0 to 4;", 2, 10);
        faulty("send -1 to 0;", 1, 5);
        faulty("loses ;", 1, 6);
        faulty("loses 1", 1, 7);
        faulty("loses 1 2;", 1, 8);
        faulty("loses 10000;", 2, 6);
        faulty("loses 1 + ;", 1, 10);
        faulty("loses 1 + 10000;", 2, 10);
        faulty("loses 1 * 10000;", 2, 10);
        faulty("loses (10000);", 2, 7);
        faulty("loses has 10000;", 2, 10);
        faulty("loses -10000;", 2, 7);
        faulty("loses if 10000 = 1 then 1 else 1 end;", 2, 9);
        faulty("loses if 1 = 10000 then 1 else 1 end;", 2, 13);
        faulty("loses if not 10000 = 1 then 1 else 1 end;", 2, 13);
        faulty("loses if 1 = 1 or 10000 = 1 then 1 else 1 end;", 2, 18);
        faulty("loses if 1 = 1 and 10000 = 1 then 1 else 1 end;", 2, 19);
        faulty("loses if 1 = 1 then 10000 else 1 end;", 2, 20);
        faulty("loses if 1 = 1 then 1 else 10000 end;", 2, 27);
        faulty("loses if 1 = 1 else 1 end;", 1, 15);
        faulty("loses if 1 = 1 then 1 else 1 else 1 end;", 1, 29);
        faulty("loses (1;", 1, 8);
        faulty("loses 1);", 1, 7);
        faulty("loses not 1 = 1;", 1, 6);
        faulty("loses 1 = 1;", 1, 8);
        faulty("loses if 1 then 2 else 3 end;", 1, 11);
        faulty("loses if (1 = 1) then 2 else 3 end;", 1, 12);
        faulty("loses if 1 <> 1 then 2 else 3 end;", 1, 12);
        faulty("loses if 1 =< 1 then 2 else 3 end;", 1, 12);
        faulty("loses if 1 = 1 then 2 end;", 1, 22);
        faulty("loses if 1 = 1 then 2 else 3;", 1, 28);
        faulty("loses if 1 = 1 = 1 then 2 else 3 end;", 1, 15);
        faulty("loses foo;", 1, 6);
        faulty("loses behind;", 5, 6);
        faulty("speaks 1 + answer;", 5, 11);
        faulty("speaks bulk;", 5, 7);
        faulty("set clock of 0 at 0 to 0;", 1, 4);
        faulty("loses 1;day 1;loses 2;", 4, 14);
        faulty("speaks 1;speaks 2;", 4, 9);
        faulty("loses (((((((((1)))))))));", 3, 14);
        faulty("loses ---------1;", 3, 14);
        faulty("loses has known has known has known has known has 1;", 3, 46);
        faulty("loses ((((((((if 1 = 1 then 1 else 1 end;", 3, 14);
        faulty("loses (((((((if not 1 = 1 then 1 else 1 end;", 3, 16);
        faulty("loses if not not not not not not not not 1 = 1 then 1 else 1 end;", 3, 37);
        faulty("loses ((((((((behind", 5, 14);
        faulty("loses ((((((((not", 1, 14);
        faulty("loses " + (char) 233 + ";", 1, 6);
    }

    static void p6() {
        DeltaNests x = new DeltaNests();
        due("none", x.by(0), false);
        due("NONE", x.by(NONE), true);
        read(x, "loses 10;");
        read(x, "loses 0;");
        due("by(1)", x.by(1), true);
        due("by(2)", x.by(2), false);
        due("by(-2)", x.by(-2), false);
        due("by(MAX)", x.by(MAX), false);
        due("it is", x.about(1), 1);
        for (int i = 0; i < 10; i++) {
            x.set(0, 0, 0, 0);
            x.send(0, 1);
        }
        due("none is lost", x.is(3), 0);
        due("by(0)", x.by(0), true);
        for (int i = 0; i < 10; i++) {
            x.send(0, 1);
        }
        due("all are lost", x.is(3), 10);
        due("by(NONE)", x.by(NONE), true);
        due("it is none", x.about(1), NONE);
        int lost = x.is(3);
        for (int i = 0; i < 10; i++) {
            int drawn = x.is(1) % 10;
            x.send(0, 1);
            lost += drawn < 3 ? 1 : 0;
            due("below 3 without", x.is(3), lost);
        }
        DeltaNests y = under("speaks 0;");
        y.set(0, 0, 0, 0);
        lost = 0;
        for (int i = 0; i < 20; i++) {
            int drawn = y.is(1) % 10;
            y.send(0, 1);
            lost += drawn < 3 ? 1 : 0;
            due("below 3 without loses", y.is(3), lost);
        }
        lawsOfLoss();
    }

    /** What a law of losses lets by: 10 draws of a message, from and to, of so many entries. */
    private static void losing(String law, int from, int to, int bulk, boolean loses) {
        DeltaNests x = under("loses if " + law + " then 10 else 0 end;");
        for (int i = 0; i < bulk; i++) {
            x.set(from, i, 0, 0);
        }
        x.day(3);
        for (int i = 1; i <= 10; i++) {
            x.send(from, to);
            due("lost by " + law, x.is(3), loses ? i : 0);
        }
    }

    private static void lawsOfLoss() {
        losing("clock = 3", 1, 2, 1, true);
        losing("clock = 2", 1, 2, 1, false);
        losing("sender = 1 and other = 2", 1, 2, 1, true);
        losing("sender = 2 or other = 1", 1, 2, 1, false);
        losing("bulk = 3 and answer = 0", 1, 2, 3, true);
        losing("bulk # 3 or answer # 0", 1, 2, 3, false);
        losing("has sender = 2 and has other = 0 and known 1 = 2", 1, 2, 2, true);
        // Of an answer: who sends it is whom the message came to, and has what came already.
        DeltaNests x = under("loses if answer = 1 and sender = 2 and other = 1 and bulk = 0 and has 2 = 1 and clock = 2 then 10 else 0 end;");
        x.set(1, 0, 0, 0);
        x.send(1, 2);
        x.day(2);
        due("the answer is lost", x.is(3), 1);
        int[] bars = {0, 3, 7, 10};
        for (int bar : bars) {
            DeltaNests y = under("loses " + bar + ";");
            y.set(1, 0, 0, 0);
            int lost = 0;
            for (int i = 0; i < 20; i++) {
                lost += y.is(1) % 10 < bar ? 1 : 0;
                y.send(1, 2);
                due("below " + bar, y.is(3), lost);
            }
        }
        due("0 at least", under("loses - 5;").fault(0), 0);
        losing("1 = 1", 0, 3, 1, true);
        DeltaNests z = under("loses 0 - 5;");
        z.set(0, 0, 0, 0);
        z.send(0, 1);
        due("0 at least", z.is(3), 0);
        z = under("loses 5000;");
        z.set(0, 0, 0, 0);
        z.send(0, 1);
        due("10 at most", z.is(3), 1);
    }

    static void p7() {
        DeltaNests x = lossless();
        due("0", x.delay(0), false);
        due("10", x.delay(10), false);
        due("-1", x.delay(-1), false);
        due("as it was", x.about(5), 2);
        x.set(0, 0, 0, 0);
        x.send(0, 1);
        due("9", x.delay(9), true);
        x.send(0, 1);
        due("1", x.delay(1), true);
        x.send(0, 1);
        due("told", x.about(5), 1);
        due("first", x.flight(0, 2), 1);
        due("second", x.flight(1, 2), 2);
        due("third", x.flight(2, 2), 9);
        x.delay(5);
        due("came", x.day(1), 1);
        due("an answer by the delay then", x.flight(1, 2), 6);
    }

    static void p8() {
        DeltaNests x = new DeltaNests();
        due("first", x.set(3, 3, 2, 99), 1);
        due("second", x.set(3, 0, 0, 0), 2);
        due("another's", x.set(0, 0, 0, 0), 1);
        int[][] bad = {{-1, 0, 0, 0}, {4, 0, 0, 0}, {0, -1, 0, 0}, {0, 4, 0, 0}, {0, 0, -1, 0}, {0, 0, 3, 0},
            {0, 0, 0, -1}, {0, 0, 0, 100}, {MIN, MIN, MIN, MIN}, {MAX, MAX, MAX, MAX}};
        for (int[] b : bad) {
            due("others", x.set(b[0], b[1], b[2], b[3]), NONE);
        }
        due("no step of those", x.about(2), 3);
        due("a second value of one field", x.set(3, 3, 2, 7), 3);
        due("instead of the first", x.values(3, 3, 2, NONE), 1);
        due("it", x.values(3, 3, 2, 0), 7);
        due("the delta's entries", x.delta(3, 2, 1), 1);
        due("the delta's dots", x.delta(3, 2, 2), 2);
        for (int n = 4; n <= 63; n++) {
            due("set", x.set(3, 1, 1, n), n);
        }
        due("beyond 63", x.set(3, 1, 1, 1), NONE);
        due("nothing is done", x.values(3, 1, 1, 0), 63);
        due("deltas", x.of(3, 0), 63);
        due("steps", x.about(2), 30);
        due("others can", x.set(2, 1, 1, 1), 1);
        x.undo();
        x.undo();
        due("and so can it then", x.set(3, 1, 1, 1), 63);
    }

    static void p9() {
        DeltaNests x = lossless();
        due("none", x.clear(0, 0, 0), NONE);
        x.set(0, 1, 2, 5);
        x.set(1, 1, 2, 6);
        sync(x, 0, 1);
        due("two", x.clear(1, 1, 2), 2);
        due("gone", x.entry(1, NONE, 0), 0);
        due("known yet", x.of(1, 3), 2);
        due("a delta without entries", x.delta(1, 2, 1), 0);
        due("that knows them", x.delta(1, 2, 2), 2);
        due("again", x.clear(1, 1, 2), NONE);
        due("another field", x.clear(0, 1, 1), NONE);
        due("another key", x.clear(0, 0, 2), NONE);
        int[][] bad = {{-1, 1, 2}, {4, 1, 2}, {0, -1, 2}, {0, 4, 2}, {0, 1, -1}, {0, 1, 3}};
        for (int[] b : bad) {
            due("others", x.clear(b[0], b[1], b[2]), NONE);
        }
        due("one", x.clear(0, 1, 2), 1);
        due("written", x.book(x.book(NONE, 0) - 1, 1), 1);
    }

    static void p10() {
        DeltaNests x = new DeltaNests();
        due("none", x.reset(0, 0), NONE);
        x.set(0, 1, 0, 5);
        x.set(0, 1, 2, 6);
        x.set(0, 2, 2, 7);
        due("another key", x.reset(0, 3), NONE);
        due("another replica", x.reset(1, 1), NONE);
        due("two", x.reset(0, 1), 2);
        due("the other key stays", x.of(0, 2), 4);
        due("the delta", x.delta(0, 3, 2), 2);
        due("written", x.book(3, 1), 2);
        int[][] bad = {{-1, 2}, {4, 2}, {0, -1}, {0, 4}};
        for (int[] b : bad) {
            due("others", x.reset(b[0], b[1]), NONE);
        }
        due("steps", x.about(2), 4);
        // A reset spares what it has not seen.
        DeltaNests y = lossless();
        y.set(0, 1, 0, 5);
        sync(y, 0, 1);
        y.set(0, 1, 0, 6);
        due("one", y.reset(1, 1), 1);
        sync(y, 1, 0);
        due("the unseen is there", y.values(0, 1, 0, 0), 6);
        sync(y, 0, 1);
        due("and comes", y.values(1, 1, 0, 0), 6);
    }

    static void p11() {
        DeltaNests x = lossless();
        due("nothing", x.send(0, 1), NONE);
        x.set(0, 0, 0, 1);
        x.set(0, 1, 0, 2);
        int[][] bad = {{-1, 0}, {4, 0}, {0, -1}, {0, 4}, {0, 0}};
        for (int[] b : bad) {
            due("others", x.send(b[0], b[1]), NONE);
        }
        due("none was sent", x.is(2), 0);
        due("sent", x.send(0, 1), 2);
        due("x", x.is(1), 20430);
        due("sent again", x.send(0, 1), 2);
        due("x", x.is(1), (20430 * 773 + 641) % 31139);
        x.day(2);
        x.day(2);
        due("acked", x.send(0, 1), NONE);
        x.set(0, 2, 0, 3);
        due("the third", x.send(0, 1), 3);
        due("one entry", x.flight(0, 5), 1);
        for (int i = 0; i < 7; i++) {
            x.set(0, 2, 0, 3);
        }
        due("the tenth", x.send(0, 1), 10);
        due("its state", x.flight(1, 5), 3);
        due("its dots", x.flight(1, 6), 10);
        x = lossless();
        x.set(0, 0, 0, 1);
        for (int i = 0; i < 24; i++) {
            due("sent", x.send(0, 1 + i % 3), 1);
        }
        due("none lost", x.is(3), 0);
        int drawn = x.is(1);
        due("the 25th", x.send(0, 1), 1);
        due("is lost", x.is(3), 1);
        due("counted", x.is(2), 25);
        due("drawn", x.is(1), (drawn * 773 + 641) % 31139);
        due("in flight", x.flight(NONE, 0), 24);
        due("a step", x.about(2), 26);
        due("all come", x.day(2), 24);
        due("and answers go", x.flight(NONE, 0), 24);
        due("none of them lost", x.is(3), 1);
    }

    static void p12() {
        DeltaNests x = lossless();
        due("0", x.day(0), NONE);
        due("13", x.day(13), NONE);
        due("-1", x.day(-1), NONE);
        due("clock", x.is(0), 0);
        x.set(0, 0, 0, 1);
        x.send(0, 1);
        x.send(0, 2);
        x.delay(3);
        x.send(0, 3);
        due("none yet", x.day(1), 0);
        due("two, one, and answers", x.day(4), 5);
        due("clock", x.is(0), 5);
        due("steps", x.about(2), 9);
        due("the last answer", x.day(12), 1);
        due("acked by all: dropped", x.of(0, 1), 1);
        x = under("loses 0; speaks behind;");
        x.set(1, 0, 0, 1);
        due("spoken at the tick", x.day(1), 0);
        due("to each other one", x.flight(NONE, 0), 3);
        due("by number", x.flight(0, 1) * 100 + x.flight(1, 1) * 10 + x.flight(2, 1), 23);
        x = new DeltaNests();
        pass(x, 9998);
        due("beyond", x.day(2), NONE);
        due("nothing is done", x.is(0), 9998);
        due("up to 9999", x.day(1), 0);
        due("beyond", x.day(1), NONE);
        due("clock", x.is(0), 9999);
    }

    static void p13() {
        DeltaNests x = new DeltaNests();
        due("none such", x.played(0), -2);
        due("others", x.played(-1), -2);
        read(x, "");
        due("empty", x.played(0), NONE);
        read(x, "loses 0;set 2 of 1 at 3 to 50;speaks 1;set 1 of 2 at 0 to 60;send 3 to 0;day 2;clear 1 of 2 at 0;reset 1 at 3;day 1;");
        due("all", x.played(1), NONE);
        due("others", x.played(2), -2);
        due("its laws rule nothing", x.about(1), NONE);
        due("steps", x.about(2), 8);
        due("clock", x.is(0), 3);
        due("set, set, came, cleared, reset", x.ledger(0) * 100 + x.ledger(1) * 10 + x.ledger(2), 211);
        due("entries", x.all(0), 0);
        due("the sent one came", x.values(0, 1, 2, 0), 50);
        read(x, "set 0 of 0 at 1 to 9;send 2 to 2;set 0 of 0 at 1 to 8;");
        due("a clause that can't be", x.played(2), 1);
        due("what was done stays", x.values(1, 0, 0, 0), 9);
        read(x, "loses 1;clear 0 of 0 at 2;");
        due("counted among all", x.played(3), 1);
        x = new DeltaNests();
        read(x, "day 1;reset 0 at 0;");
        due("no reset", x.played(0), 1);
        read(x, "send 0 to 1;");
        due("no send", x.played(1), 0);
        pass(x, 9990);
        read(x, "day 4;day 12;day 1;");
        due("ticks that can pass do", x.played(3), 1);
        due("clock", x.is(0), 9999);
        due("again", x.played(3), 0);
    }

    static void p14() {
        DeltaNests x = new DeltaNests();
        int[][] bad = {{-1, 1}, {10000, 1}, {0, 0}, {0, 25}, {MIN, MIN}, {MAX, MAX}};
        for (int[] b : bad) {
            due("others", x.years(b[0], b[1]), NONE);
        }
        due("x", x.is(1), 509);
        due("steps", x.about(2), 0);
        for (int seed : new int[] {0, 1, 77, 1234, 9999}) {
            byHand(seed, 24);
        }
        DeltaNests y = lossless();
        pass(y, 9999);
        due("no tick beyond 9999", y.years(1234, 24), 9999);
        due("years", x.years(0, 1), 0);
        due("x mod 8 is 5, nothing to send", x.is(1), 20430);
        due("a step all the same", x.about(2), 1);
        due("taken back", x.undo(), 0);
        due("x", x.is(1), 509);
    }

    /** What the years do, told in calls by hand, x kept aside. */
    private static void byHand(int seed, int n) {
        DeltaNests x = lossless();
        DeltaNests y = lossless();
        due("one step of years", x.years(seed, n), tellYears(y, seed, n));
        due("one step", x.about(2), 1);
        for (int r = 0; r < 4; r++) {
            due("digest", x.digest(r), y.digest(r));
            due("dots", x.of(r, 3), y.of(r, 3));
            due("deltas", x.of(r, 0), y.of(r, 0));
        }
        due("sent", x.is(2), y.is(2));
        due("in flight", x.flight(NONE, 0), y.flight(NONE, 0));
    }

    static void p15() {
        DeltaNests x = new DeltaNests();
        due("none", x.undo(), NONE);
        x.set(0, 0, 0, 1);
        x.send(0, 1);
        read(x, "loses 0;");
        x.by(0);
        x.delay(7);
        x.said(0, 1, 1, 1);
        due("a tick", x.day(3), 1);
        int answered = x.book(NONE, 0);
        due("each tick", x.undo(), 4);
        due("clock", x.is(0), 2);
        due("each tick", x.undo(), 3);
        due("in flight again", x.flight(NONE, 0), 1);
        due("unacquainted", x.entry(1, NONE, 0), 0);
        due("the book is shorter", x.book(NONE, 0) < answered, true);
        due("ticks", x.undo(), 2);
        due("sent", x.undo(), 1);
        due("x", x.is(1), 509);
        due("set", x.undo(), 0);
        due("none", x.undo(), NONE);
        due("deltas", x.of(0, 0), 0);
        due("texts stay", x.about(0), 1);
        due("the text stays", x.about(1), 0);
        due("said stays", x.about(3), 1);
        due("delay stays", x.about(5), 7);
        x.day(12);
        x.day(12);
        x.day(12);
        due("30 at most", x.about(2), 30);
        for (int i = 29; i >= 0; i--) {
            due("undo", x.undo(), i);
        }
        due("none", x.undo(), NONE);
        due("clock", x.is(0), 6);
        undoEach();
        x.set(0, 2, 2, 2);
        x.years(3, 24);
        due("years are one", x.undo(), 1);
        due("as ahead of them", x.digest(0), 7 + 10 + 6 + 2);
    }

    /** Each kind of step, twice over, so that what is taken back is not that of an elder step. */
    private static void undoEach() {
        for (int kind = 0; kind < 7; kind++) {
            DeltaNests x = lossless();
            read(x, "day 1;");
            for (int round = 1; round <= 2; round++) {
                x.set(0, 0, 1, round);
                x.set(0, 1, 0, kind);
                String before = world(x);
                String inBrief = brief(x);
                int steps = x.about(2);
                switch (kind) {
                    case 0: x.set(0, 2, 0, 9); break;
                    case 1: x.clear(0, 1, 0); break;
                    case 2: x.reset(0, 1); break;
                    case 3: x.send(0, 1); break;
                    case 4: x.day(1); break;
                    case 5: x.years(round, 24); break;
                    default: x.played(1); break;
                }
                due("something was done by " + kind, brief(x).equals(inBrief), false);
                due("taken back", x.undo(), Math.min(steps, 29));
                due("all is as ahead of it", world(x).equals(before), true);
                x.day(10);
            }
        }
    }

    static void p16() {
        DeltaNests x = lossless();
        due("none", x.values(0, 0, 0, NONE), 0);
        due("none", x.values(0, 0, 0, 0), -2);
        x.set(2, 1, 2, 60);
        x.set(1, 0, 0, 5);
        x.set(1, 1, 2, 70);
        x.set(3, 1, 2, 80);
        x.send(3, 2);
        x.send(1, 2);
        x.day(2);
        due("three", x.values(2, 1, 2, NONE), 3);
        due("by dots", x.values(2, 1, 2, 0), 70);
        due("by dots", x.values(2, 1, 2, 1), 60);
        due("by dots", x.values(2, 1, 2, 2), 80);
        due("beyond", x.values(2, 1, 2, 3), -2);
        due("below", x.values(2, 1, 2, -2), -2);
        int[][] bad = {{-1, 1, 2}, {4, 1, 2}, {2, -1, 2}, {2, 4, 2}, {2, 1, -1}, {2, 1, 3}};
        for (int[] b : bad) {
            due("others", x.values(b[0], b[1], b[2], NONE), -2);
            due("others", x.values(b[0], b[1], b[2], 0), -2);
        }
    }

    static void p17() {
        DeltaNests x = lossless();
        x.set(3, 1, 2, 60);
        x.set(0, 3, 1, 99);
        x.set(0, 2, 0, 98);
        sync(x, 3, 0);
        due("three", x.entry(0, NONE, 0), 3);
        int[][] rows = {{0, 1, 3, 1, 99}, {0, 2, 2, 0, 98}, {3, 1, 1, 2, 60}};
        for (int i = 0; i < 3; i++) {
            for (int what = 0; what < 5; what++) {
                due("entry " + i + " " + what, x.entry(0, i, what), rows[i][what]);
            }
            due("others", x.entry(0, i, 5), -2);
            due("others", x.entry(0, i, -1), -2);
        }
        for (int n = 2; n <= 62; n++) {
            x.set(3, 1, 2, n);
        }
        x.set(3, 2, 2, 7);
        due("a high dot's replica", x.entry(3, 1, 0), 3);
        due("a high dot's number", x.entry(3, 1, 1), 63);
        due("its value", x.entry(3, 1, 4), 7);
        due("the other's number", x.entry(3, 0, 1), 62);
        due("beyond", x.entry(0, 3, 0), -2);
        due("below", x.entry(0, -2, 0), -2);
        due("others", x.entry(4, NONE, 0), -2);
        due("others", x.entry(-1, 0, 0), -2);
    }

    static void p18() {
        DeltaNests x = lossless();
        x.set(2, 0, 0, 1);
        x.set(2, 0, 0, 2);
        due("two", x.context(2, 2), 2);
        due("another's", x.context(0, 2), 0);
        sync(x, 2, 0);
        due("two", x.context(0, 2), 2);
        x.set(2, 0, 0, 3);
        x.send(2, 1);
        x.set(2, 0, 1, 3);
        due("none yet", x.context(1, 2), 0);
        x.day(2);
        due("three", x.context(1, 2), 3);
        due("others", x.context(-1, 0), NONE);
        due("others", x.context(4, 0), NONE);
        due("others", x.context(0, -1), NONE);
        due("others", x.context(0, 4), NONE);
    }

    /** 0 has acked by 1 two of its deltas, and others behind them that are cleared and set. */
    private static DeltaNests clouded() {
        DeltaNests x = lossless();
        x.set(0, 0, 0, 1);
        x.set(0, 1, 1, 2);
        sync(x, 0, 1);
        x.set(0, 2, 2, 3);
        x.set(0, 3, 0, 4);
        x.set(2, 3, 0, 5);
        x.set(2, 3, 1, 6);
        sync(x, 2, 0);
        return x;
    }

    static void p19() {
        DeltaNests x = lossless();
        due("nothing", x.cloud(0, 1, NONE, 0), -2);
        x.set(0, 0, 0, 1);
        due("no cloud", x.cloud(0, 1, NONE, 0), 0);
        due("none such", x.cloud(0, 1, 0, 0), -2);
        x = clouded();
        due("two, those of 2 stand in the vector", x.cloud(0, 1, NONE, 0), 2);
        due("dots", x.would(0, 1, 1), 4);
        due("replica", x.cloud(0, 1, 0, 0), 0);
        due("number", x.cloud(0, 1, 0, 1), 3);
        due("replica", x.cloud(0, 1, 1, 0), 0);
        due("number", x.cloud(0, 1, 1, 1), 4);
        due("beyond", x.cloud(0, 1, 2, 0), -2);
        due("below", x.cloud(0, 1, -2, 0), -2);
        due("others", x.cloud(0, 1, 0, 2), -2);
        due("others", x.cloud(0, 1, 0, -1), -2);
        due("to who has nothing: none", x.cloud(0, 3, NONE, 0), 0);
        DeltaNests y = lossless();
        for (int n = 1; n <= 62; n++) {
            y.set(3, 1, 2, n);
        }
        sync(y, 3, 2);
        y.set(3, 0, 0, 0);
        due("one", y.cloud(3, 2, NONE, 0), 1);
        due("replica", y.cloud(3, 2, 0, 0), 3);
        due("number", y.cloud(3, 2, 0, 1), 63);
        due("what comes has a cloud, the state that has the rest none", y.cloud(3, 1, NONE, 0), 0);
        int[][] bad = {{0, 0}, {-1, 0}, {4, 0}, {0, -1}, {0, 4}};
        for (int[] b : bad) {
            due("others", x.cloud(b[0], b[1], NONE, 0), -2);
        }
    }

    static void p20() {
        DeltaNests x = lossless();
        x.set(0, 0, 0, 1);
        x.set(0, 0, 0, 1);
        due("first", x.knows(0, 0, 1), true);
        due("second", x.knows(0, 0, 2), true);
        due("third", x.knows(0, 0, 3), false);
        due("another", x.knows(1, 0, 1), false);
        due("another's", x.knows(0, 1, 1), false);
        due("0", x.knows(0, 0, 0), false);
        due("64", x.knows(0, 0, 64), false);
        due("65", x.knows(0, 0, 65), false);
        due("MIN", x.knows(0, 0, MIN), false);
        due("others", x.knows(-1, 0, 1), false);
        due("others", x.knows(4, 0, 1), false);
        due("others", x.knows(0, -1, 1), false);
        due("others", x.knows(0, 4, 1), false);
        for (int i = 0; i < 61; i++) {
            x.set(0, 0, 0, 1);
        }
        due("63", x.knows(0, 0, 63), true);
        due("64", x.knows(0, 0, 64), false);
    }

    static void p21() {
        DeltaNests x = lossless();
        due("none", x.delta(0, NONE, 0), 0);
        due("none", x.delta(0, 0, 0), -2);
        for (int i = 1; i <= 8; i++) {
            x.set(0, 0, 0, i);
        }
        due("six", x.delta(0, NONE, 0), 6);
        due("the eldest", x.delta(0, 0, 0), 3);
        due("the latest", x.delta(0, 5, 0), 8);
        due("entries", x.delta(0, 5, 1), 1);
        due("dots", x.delta(0, 5, 2), 2);
        due("beyond", x.delta(0, 6, 0), -2);
        due("below", x.delta(0, -2, 0), -2);
        due("others", x.delta(0, 0, 3), -2);
        due("others", x.delta(0, 0, -1), -2);
        due("others", x.delta(-1, NONE, 0), -2);
        due("others", x.delta(4, 0, 0), -2);
        // What comes is a delta as it came, but only if it is new.
        x.set(1, 1, 1, 1);
        x.send(1, 2);
        x.send(1, 2);
        x.day(4);
        due("once", x.delta(2, NONE, 0), 1);
        due("its number", x.delta(2, 0, 0), 1);
        x.set(1, 1, 2, 1);
        sync(x, 1, 2);
        due("as it came", x.delta(2, 1, 2), 1);
    }

    static void p22() {
        DeltaNests x = lossless();
        for (int i = 1; i <= 7; i++) {
            x.set(1, i % 2 * 3, 0, i);
        }
        due("deltas", x.of(1, 0), 7);
        due("dropped", x.of(1, 1), 1);
        due("keys", x.of(1, 2), 9);
        due("dots", x.of(1, 3), 7);
        due("others", x.of(1, 4), -2);
        due("others", x.of(1, -1), -2);
        due("others", x.of(-1, 0), -2);
        due("others", x.of(4, 0), -2);
        sync(x, 1, 0);
        sync(x, 1, 2);
        due("not yet all have acked", x.of(1, 1), 1);
        x.send(1, 3);
        x.day(2);
        x.set(1, 2, 0, 0);
        x.day(2);
        due("all have acked seven", x.of(1, 1), 7);
        due("one is kept", x.delta(1, NONE, 0), 1);
        for (int last = 0; last < 3; last++) {
            DeltaNests y = lossless();
            y.set(3, 0, 0, 0);
            sync(y, 3, (last + 1) % 3);
            sync(y, 3, (last + 2) % 3);
            due("not yet all", y.of(3, 1), 0);
            sync(y, 3, last);
            due("all", y.of(3, 1), 1);
        }
    }

    static void p23() {
        DeltaNests x = lossless();
        x.set(0, 0, 0, 0);
        x.set(0, 0, 0, 0);
        due("none", x.acked(0, 1), 0);
        sync(x, 0, 1);
        due("two", x.acked(0, 1), 2);
        due("another", x.acked(0, 2), 0);
        due("not the other way", x.acked(1, 0), 0);
        due("itself", x.acked(0, 0), NONE);
        due("others", x.acked(-1, 0), NONE);
        due("others", x.acked(4, 0), NONE);
        due("others", x.acked(0, -1), NONE);
        due("others", x.acked(0, 4), NONE);
        // An older answer that comes later changes nothing.
        DeltaNests y = lossless();
        y.set(0, 0, 0, 0);
        y.delay(9);
        y.send(0, 1);
        y.set(0, 0, 0, 0);
        y.delay(1);
        y.send(0, 1);
        y.day(2);
        due("the later is acked", y.acked(0, 1), 2);
        y.day(12);
        due("and stays so", y.acked(0, 1), 2);
    }

    static void p24() {
        DeltaNests x = lossless();
        due("none", x.flight(NONE, 0), 0);
        due("none", x.flight(0, 0), -2);
        x.set(0, 0, 0, 0);
        x.set(0, 0, 0, 1);
        x.delay(5);
        x.send(0, 3);
        x.delay(3);
        x.send(0, 2);
        x.send(0, 1);
        x.delay(5);
        x.send(0, 1);
        int[] to = {2, 1, 3, 1};
        int[] at = {3, 3, 5, 5};
        due("four", x.flight(NONE, 0), 4);
        for (int i = 0; i < 4; i++) {
            int[] row = {0, to[i], at[i], 0, 2, 1, 2};
            for (int what = 0; what < 7; what++) {
                due("flight " + i + " " + what, x.flight(i, what), row[what]);
            }
            due("others", x.flight(i, 7), -2);
            due("others", x.flight(i, -1), -2);
        }
        due("beyond", x.flight(4, 0), -2);
        due("below", x.flight(-2, 0), -2);
        x.delay(1);
        x.day(3);
        int[] answer = {2, 0, 4, 1, 2, 0, 0};
        for (int what = 0; what < 7; what++) {
            due("answer " + what, x.flight(0, what), answer[what]);
        }
    }

    static void p25() {
        DeltaNests x = new DeltaNests();
        x.set(0, 0, 0, 0);
        x.send(0, 1);
        x.send(0, 1);
        due("x", x.is(1), 5558);
        due("sent", x.is(2), 2);
        due("lost", x.is(3), 1);
        x.day(2);
        due("clock", x.is(0), 2);
        due("the answer is sent, too", x.is(2), 3);
        due("others", x.is(4), -2);
        due("others", x.is(-1), -2);
    }

    static void p26() {
        DeltaNests x = new DeltaNests();
        due("none", x.book(NONE, 0), 0);
        due("none", x.book(0, 0), -2);
        x.set(3, 2, 0, 0);
        x.day(1);
        x.clear(3, 2, 0);
        x.set(3, 1, 0, 0);
        x.reset(3, 1);
        x.send(3, 2);
        x.send(3, 2);
        x.day(2);
        int[][] rows = {{0, 0, 3, 2}, {1, 1, 3, 2}, {1, 0, 3, 1}, {1, 2, 3, 1}, {1, 3, 2, 3}, {3, 4, 2, 3}};
        due("lines", x.book(NONE, 0), 6);
        for (int i = 0; i < 6; i++) {
            for (int what = 0; what < 4; what++) {
                due("line " + i + " " + what, x.book(i, what), rows[i][what]);
            }
            due("others", x.book(i, 4), -2);
            due("others", x.book(i, -1), -2);
        }
        due("beyond", x.book(6, 0), -2);
        due("below", x.book(-2, 0), -2);
        for (int i = 0; i < 22; i++) {
            x.set(0, i % 4, 0, 0);
        }
        due("25 at most", x.book(NONE, 0), 25);
        due("the eldest is the fourth", x.book(0, 1), 2);
        for (int i = 3; i < 25; i++) {
            due("the others", x.book(i, 3), (i - 3) % 4);
        }
        due("beyond", x.book(25, 0), -2);
        // An answer that is lost, behind what came.
        DeltaNests y = under("loses answer * 10;");
        y.set(0, 0, 0, 0);
        y.send(0, 1);
        y.day(2);
        due("lines", y.book(NONE, 0), 3);
        due("came", y.book(1, 1) * 100 + y.book(1, 2) * 10 + y.book(1, 3), 410);
        due("lost", y.book(2, 1) * 100 + y.book(2, 2) * 10 + y.book(2, 3), 301);
        // An answer that comes.
        DeltaNests z = lossless();
        z.set(0, 0, 0, 0);
        sync(z, 0, 1);
        due("came", z.book(2, 1) * 100 + z.book(2, 2) * 10 + z.book(2, 3), 401);
    }

    static void p27() {
        DeltaNests x = under("loses 0; speaks behind;");
        x.set(0, 1, 2, 50);
        due("not yet", x.foretold(2, 1), 0);
        due("then", x.foretold(3, 1), 68);
        due("its own", x.foretold(1, 0), 68);
        due("changes nothing", x.is(0), 0);
        due("changes nothing", x.is(1), 509);
        due("changes nothing", x.flight(NONE, 0), 0);
        due("no step", x.about(2), 1);
        due("others", x.foretold(0, 0), NONE);
        due("others", x.foretold(13, 0), NONE);
        due("others", x.foretold(1, -1), NONE);
        due("others", x.foretold(1, 4), NONE);
        x.day(3);
        due("it came so", x.digest(1), 68);
        DeltaNests y = lossless();
        pass(y, 9997);
        y.set(0, 1, 2, 50);
        y.delay(3);
        y.send(0, 1);
        due("ticks that can't pass don't", y.foretold(12, 1), 0);
        y.delay(2);
        y.send(0, 1);
        due("those that can do", y.foretold(12, 1), 68);
        y.day(2);
        due("at the last one", y.foretold(12, 1), 68);
    }

    static void p28() {
        DeltaNests x = lossless();
        due("nothing", x.need(0, 1), NONE);
        for (int i = 1; i <= 6; i++) {
            x.set(0, 0, 0, 0);
            due("deltas", x.need(0, 1), i);
        }
        x.set(0, 0, 0, 0);
        due("all it has", x.need(0, 1), 0);
        sync(x, 0, 1);
        due("nothing", x.need(0, 1), NONE);
        x.set(0, 0, 0, 0);
        due("one", x.need(0, 1), 1);
        int[][] bad = {{0, 0}, {-1, 0}, {4, 0}, {0, -1}, {0, 4}};
        for (int[] b : bad) {
            due("others", x.need(b[0], b[1]), NONE);
        }
    }

    static void p29() {
        DeltaNests x = lossless();
        due("nothing", x.would(0, 1, 0), NONE);
        x.set(0, 0, 0, 1);
        x.set(0, 0, 1, 1);
        x.set(0, 0, 0, 1);
        due("entries", x.would(0, 1, 0), 2);
        due("dots", x.would(0, 1, 1), 3);
        x.set(2, 3, 0, 1);
        due("another's entries", x.would(2, 1, 0), 1);
        due("another's dots", x.would(2, 1, 1), 1);
        due("others", x.would(0, 1, 2), NONE);
        due("others", x.would(0, 1, -1), NONE);
        sync(x, 0, 1);
        x.clear(0, 0, 0);
        due("entries", x.would(0, 1, 0), 0);
        due("dots", x.would(0, 1, 1), 1);
        due("entries to another", x.would(0, 2, 0), 1);
        for (int i = 0; i < 7; i++) {
            x.set(0, 3, 0, 1);
        }
        due("all: entries", x.would(0, 1, 0), 2);
        due("all: dots", x.would(0, 1, 1), 10);
        int[][] bad = {{0, 0}, {-1, 0}, {4, 0}, {0, -1}, {0, 4}};
        for (int[] b : bad) {
            due("others", x.would(b[0], b[1], 0), NONE);
        }
    }

    static void p30() {
        DeltaNests x = lossless();
        due("nothing", x.digest(0), 0);
        x.set(1, 1, 2, 50);
        due("one", x.digest(1), 101 + 7 + 5 + 6 + 50);
        x.set(3, 3, 2, 99);
        int b = 303 + 7 + 15 + 6 + 99;
        due("one", x.digest(3), b);
        sync(x, 3, 1);
        due("two by dots", x.digest(1), (169 * 31 + b) % 9973);
        x.set(1, 0, 0, 1);
        int c = 101 + 14 + 1;
        due("three by dots", x.digest(1), ((169 * 31 + c) % 9973 * 31 + b) % 9973);
        due("others", x.digest(-1), NONE);
        due("others", x.digest(4), NONE);
    }

    static void p31() {
        DeltaNests x = lossless();
        due("empty", x.same(0, 1), true);
        due("itself", x.same(2, 2), true);
        x.set(0, 0, 0, 0);
        due("unlike", x.same(0, 1), false);
        due("itself", x.same(0, 0), true);
        sync(x, 0, 1);
        due("alike", x.same(0, 1), true);
        x.clear(0, 0, 0);
        due("they know the like, but have not", x.same(0, 1), false);
        x.clear(1, 0, 0);
        due("alike", x.same(1, 0), true);
        due("neither has, but one knows", x.same(0, 2), false);
        int[][] bad = {{-1, 0}, {4, 0}, {0, -1}, {0, 4}, {4, 4}, {-1, -1}};
        for (int[] b : bad) {
            due("others", x.same(b[0], b[1]), false);
        }
    }

    static void p32() {
        DeltaNests x = lossless();
        due("empty", x.below(0, 1), true);
        x.set(0, 0, 0, 0);
        due("less", x.below(1, 0), true);
        due("more", x.below(0, 1), false);
        due("itself", x.below(0, 0), true);
        sync(x, 0, 1);
        x.clear(0, 0, 0);
        due("the gone is above", x.below(1, 0), true);
        due("the gone is above", x.below(0, 1), false);
        x.set(1, 0, 1, 0);
        due("neither", x.below(1, 0), false);
        due("neither", x.below(0, 1), false);
        int[][] bad = {{-1, 0}, {4, 0}, {0, -1}, {0, 4}, {4, 4}};
        for (int[] b : bad) {
            due("others", x.below(b[0], b[1]), false);
        }
    }

    static void p33() {
        DeltaNests x = lossless();
        x.set(0, 1, 2, 60);
        x.set(0, 1, 2, 60);
        x.set(1, 1, 2, 70);
        due("entries", x.join(0, 1, 0), 2);
        due("dots", x.join(0, 1, 1), 3);
        due("digest", x.join(1, 0, 2), 2824);
        due("itself", x.join(0, 0, 0), 1);
        sync(x, 0, 1);
        x.reset(1, 1);
        due("what is gone stays so", x.join(0, 1, 0), 0);
        due("dots", x.join(0, 1, 1), 3);
        due("others", x.join(0, 1, 3), NONE);
        due("others", x.join(0, 1, -1), NONE);
        due("changes nothing", x.entry(0, NONE, 0), 1);
        int[][] bad = {{-1, 0}, {4, 0}, {0, -1}, {0, 4}};
        for (int[] b : bad) {
            due("others", x.join(b[0], b[1], 0), NONE);
        }
    }

    static void p34() {
        DeltaNests x = lossless();
        due("empty", x.all(0) + x.all(1) + x.all(2), 0);
        for (int r = 0; r < 4; r++) {
            x.set(r, 1, 2, 10 * r);
        }
        due("entries", x.all(0), 4);
        due("dots", x.all(1), 4);
        int digest = 0;
        for (int r = 0; r < 4; r++) {
            digest = (31 * digest + 101 * r + 7 + 5 + 6 + 10 * r) % 9973;
        }
        due("digest", x.all(2), digest);
        sync(x, 3, 2);
        x.reset(2, 1);
        due("entries", x.all(0), 2);
        due("dots", x.all(1), 4);
        due("others", x.all(3), NONE);
        due("others", x.all(-1), NONE);
    }

    static void p35() {
        DeltaNests x = new DeltaNests();
        due("none", x.parts(0), 0);
        x.set(0, 0, 0, 0);
        x.set(0, 0, 0, 0);
        x.set(0, 0, 1, 0);
        due("entries and gone ones", x.parts(0), 3);
        due("another", x.parts(1), 0);
        due("others", x.parts(-1), NONE);
        due("others", x.parts(4), NONE);
    }

    static void p36() {
        DeltaNests x = lossless();
        due("none", x.unlike(0, 1), 0);
        x.set(0, 0, 0, 0);
        x.set(0, 0, 0, 0);
        due("an entry, a gone one", x.unlike(0, 1), 2);
        due("nothing of it", x.unlike(1, 0), 0);
        sync(x, 0, 1);
        due("alike", x.unlike(0, 1), 0);
        x.clear(0, 0, 0);
        due("gone where the other has it", x.unlike(0, 1), 1);
        due("an entry the other knows is none", x.unlike(1, 0), 0);
        due("itself", x.unlike(0, 0), 0);
        int[][] bad = {{-1, 0}, {4, 0}, {0, -1}, {0, 4}};
        for (int[] b : bad) {
            due("others", x.unlike(b[0], b[1]), NONE);
        }
    }

    static void p37() {
        DeltaNests x = lossless();
        due("none", x.spared(0, 0), 0);
        x.set(0, 1, 0, 0);
        x.set(0, 1, 1, 0);
        x.set(0, 2, 1, 0);
        x.set(1, 1, 0, 0);
        due("what another has", x.spared(0, 1), 1);
        due("what another has", x.spared(1, 1), 2);
        due("nothing is reset", x.spared(2, 1), 3);
        due("another key", x.spared(1, 2), 1);
        due("another key", x.spared(0, 2), 0);
        sync(x, 0, 1);
        due("seen", x.spared(1, 1), 0);
        due("unseen", x.spared(0, 1), 1);
        due("nothing is done", x.entry(1, NONE, 0), 4);
        due("no step", x.about(2), 9);
        due("others", x.spared(-1, 0), NONE);
        due("others", x.spared(4, 0), NONE);
        due("others", x.spared(0, -1), NONE);
        due("others", x.spared(0, 4), NONE);
    }

    static void p38() {
        DeltaNests x = lossless();
        due("none", x.winner(0, 0, 0), NONE);
        x.set(0, 0, 1, 1);
        x.set(0, 1, 1, 10);
        x.set(1, 0, 1, 1);
        x.set(1, 1, 1, 20);
        x.set(2, 1, 1, 30);
        x.send(0, 2);
        x.send(1, 2);
        x.day(2);
        due("of like ones the highest replica's", x.winner(2, 1, 1), 20);
        due("three are there", x.values(2, 1, 1, NONE), 3);
        x.set(0, 1, 1, 40);
        sync(x, 0, 2);
        due("the greatest number", x.winner(2, 1, 1), 40);
        due("another field", x.winner(2, 1, 0), NONE);
        int[][] bad = {{-1, 1, 1}, {4, 1, 1}, {2, -1, 1}, {2, 4, 1}, {2, 1, -1}, {2, 1, 3}};
        for (int[] b : bad) {
            due("others", x.winner(b[0], b[1], b[2]), NONE);
        }
    }

    static void p39() {
        DeltaNests x = lossless();
        due("none", x.torn(0), 0);
        x.set(0, 0, 0, 0);
        x.set(0, 3, 2, 0);
        x.set(0, 1, 1, 0);
        due("one of each is not torn", x.torn(0), 0);
        x.set(1, 0, 0, 0);
        x.set(1, 3, 2, 0);
        x.set(2, 0, 0, 0);
        x.send(1, 0);
        x.send(2, 0);
        x.day(2);
        due("two fields", x.torn(0), 2);
        due("not there", x.torn(1), 0);
        x.set(0, 0, 0, 1);
        due("mended", x.torn(0), 1);
        due("others", x.torn(-1), NONE);
        due("others", x.torn(4), NONE);
    }

    static void p40() {
        DeltaNests x = new DeltaNests();
        due("none", x.fields(0, 0), 0);
        x.set(0, 2, 0, 0);
        x.set(0, 2, 2, 0);
        x.set(0, 1, 1, 0);
        due("0 and 2", x.fields(0, 2), 5);
        due("1", x.fields(0, 1), 2);
        due("another", x.fields(1, 2), 0);
        due("others", x.fields(-1, 0), NONE);
        due("others", x.fields(4, 0), NONE);
        due("others", x.fields(0, -1), NONE);
        due("others", x.fields(0, 4), NONE);
    }

    static void p41() {
        DeltaNests x = new DeltaNests();
        due("none", x.sum(0, 0), 0);
        x.set(0, 2, 0, 99);
        x.set(0, 2, 2, 98);
        x.set(0, 1, 1, 97);
        due("together", x.sum(0, 2), 197);
        x.set(0, 2, 0, 1);
        due("together", x.sum(0, 2), 99);
        due("another", x.sum(1, 2), 0);
        due("others", x.sum(-1, 0), NONE);
        due("others", x.sum(4, 0), NONE);
        due("others", x.sum(0, -1), NONE);
        due("others", x.sum(0, 4), NONE);
    }

    static void p42() {
        DeltaNests x = lossless();
        x.set(0, 2, 0, 99);
        x.set(0, 2, 2, 98);
        x.set(1, 2, 2, 98);
        sync(x, 0, 1);
        due("another's", x.share(1, 0), 2);
        due("its own", x.share(1, 1), 1);
        due("none", x.share(1, 2), 0);
        due("none", x.share(0, 1), 0);
        due("others", x.share(-1, 0), NONE);
        due("others", x.share(4, 0), NONE);
        due("others", x.share(0, -1), NONE);
        due("others", x.share(0, 4), NONE);
    }

    static void p43() {
        DeltaNests x = lossless();
        due("none", x.behind(0), 0);
        x.set(0, 0, 0, 0);
        x.set(0, 0, 0, 0);
        x.set(3, 0, 0, 0);
        due("one", x.behind(0), 1);
        due("three", x.behind(1), 3);
        due("two", x.behind(3), 2);
        sync(x, 3, 0);
        due("none", x.behind(0), 0);
        due("others", x.behind(-1), NONE);
        due("others", x.behind(4), NONE);
    }

    static void p44() {
        DeltaNests x = lossless();
        due("of like ones the lowest", x.freshest(), 0);
        x.set(2, 0, 0, 0);
        due("2", x.freshest(), 2);
        x.set(1, 0, 0, 0);
        due("the lower", x.freshest(), 1);
        x.set(3, 0, 0, 0);
        x.set(3, 0, 0, 0);
        due("most dots, not entries", x.freshest(), 3);
    }

    static void p45() {
        DeltaNests x = under("loses 0; speaks behind;");
        due("quiet", x.quiet(), true);
        x.set(0, 0, 0, 0);
        due("something to send", x.quiet(), false);
        x.day(12);
        x.day(12);
        due("quiet", x.quiet(), true);
        DeltaNests y = lossless();
        y.set(0, 0, 0, 0);
        for (int to = 1; to < 4; to++) {
            y.send(0, to);
        }
        y.day(4);
        due("what came would be sent on", y.quiet(), false);
        DeltaNests z = lossless();
        z.set(0, 0, 0, 0);
        z.send(0, 1);
        z.undo();
        z.undo();
        due("quiet again", z.quiet(), true);
    }

    static void p46() {
        DeltaNests x = under("loses 0; speaks behind;");
        due("it is", x.till(), 0);
        x.set(0, 0, 0, 0);
        int till = x.till();
        due("changes nothing", x.is(0), 0);
        for (int i = 1; i <= till; i++) {
            due("not yet", x.quiet(), false);
            x.day(1);
        }
        due("quiet then", x.quiet(), true);
        due("some ticks", till > 4, true);
        x.by(NONE);
        x.set(0, 0, 0, 0);
        due("nobody speaks", x.till(), NONE);
        // Nobody speaks until the clock is there: quiet as many ticks behind that, by 60 or not.
        for (int from = 40; from <= 60; from++) {
            DeltaNests y = under("loses 0; speaks if clock >= " + from + " then 1 else 0 end;");
            y.set(0, 0, 0, 0);
            int by = from - 1 + till;
            due("by 60", y.till(), by <= 60 ? by : NONE);
        }
        DeltaNests z = under("loses 0; speaks behind;");
        pass(z, 9999);
        z.set(0, 0, 0, 0);
        due("beyond 9999, too", z.till(), till);
    }

    static void p47() {
        DeltaNests x = under("speaks if behind >= 2 then if other = 2 then 0 - 1 else sender end else 0 end;");
        x.set(1, 0, 0, 0);
        due("too little", x.speaks(1, 0), false);
        x.set(1, 0, 0, 0);
        due("enough", x.speaks(1, 0), true);
        due("enough", x.speaks(1, 3), true);
        due("not above 0", x.speaks(1, 2), false);
        x.set(0, 0, 0, 0);
        x.set(0, 0, 0, 0);
        due("0 is not above 0", x.speaks(0, 1), false);
        due("nothing to send", x.speaks(3, 1), false);
        int[][] bad = {{1, 1}, {-1, 0}, {4, 0}, {1, -1}, {1, 4}};
        for (int[] b : bad) {
            due("others", x.speaks(b[0], b[1]), false);
        }
        x.by(NONE);
        due("without", x.speaks(1, 0), false);
        DeltaNests y = under("speaks 1;");
        due("nothing to send", y.speaks(0, 1), false);
    }

    static void p48() {
        DeltaNests x = new DeltaNests();
        int[][] bad = {{0, 0, 0, 0}, {-2, 0, 0, 0}, {4, 0, 0, 0}, {0, -1, 0, 0}, {0, 4, 0, 0}, {0, 1, -1, 0},
            {0, 1, 100, 0}, {0, 1, 0, -1}, {0, 1, 0, 2}};
        for (int[] b : bad) {
            due("others", x.said(b[0], b[1], b[2], b[3]), -2);
        }
        due("none", x.about(3), 0);
        for (int i = 1; i <= 8; i++) {
            due("said", x.said(3, 0, 99, i % 2), i);
        }
        due("the ninth", x.said(0, 1, 0, 0), -2);
        due("eight", x.about(3), 8);
        due("none any more", x.said(NONE, 9, 9, 9), 0);
        due("none any more", x.about(3), 0);
        due("said", x.said(0, 3, 0, 1), 1);
    }

    static void p49() {
        DeltaNests x = new DeltaNests();
        due("no text", x.whose(), 0);
        read(x, "speaks behind - 1;");
        read(x, "loses 1;");
        read(x, "speaks if sender = 1 then 1 else 0 end;");
        due("nothing said: all", x.whose(), 7);
        x.said(1, 0, 1, 0);
        due("without it nobody speaks", x.whose(), 3);
        x.said(2, 0, 2, 1);
        due("said so", x.whose(), 1);
        x.said(2, 0, 99, 0);
        due("none", x.whose(), 0);
        x.said(NONE, 0, 0, 0);
        x.said(1, 2, 0, 1);
        due("the third", x.whose(), 4);
        x.said(NONE, 0, 0, 0);
        read(x, "speaks has 2 + clock - other;");
        x.said(3, 2, 50, 1);
        due("the first", x.whose(), 1);
        x.day(2);
        due("the first", x.whose(), 1);
        x.set(2, 0, 0, 0);
        due("and the fourth, as all is now", x.whose(), 9);
    }

    static void p50() {
        DeltaNests x = new DeltaNests();
        for (int what = 0; what < 5; what++) {
            due("none", x.ledger(what), 0);
        }
        x.set(0, 0, 0, 0);
        x.set(0, 0, 1, 0);
        x.set(0, 1, 1, 0);
        x.set(0, 1, 1, 0);
        x.clear(0, 0, 0);
        x.clear(0, 0, 1);
        x.reset(0, 1);
        x.send(0, 1);
        x.send(0, 2);
        x.day(2);
        due("set", x.ledger(0), 4);
        due("cleared", x.ledger(1), 2);
        due("reset", x.ledger(2), 1);
        due("lost", x.ledger(3), x.is(3));
        due("came", x.ledger(4), 1);
        due("others", x.ledger(5), -2);
        due("others", x.ledger(-1), -2);
        for (int i = 0; i < 30; i++) {
            x.set(0, 0, 0, 0);
        }
        due("25 at most", x.ledger(0), 25);
        due("none any more", x.ledger(2), 0);
    }

    static void p51() {
        DeltaNests x = lossless();
        x.day(5);
        due("clock", x.image(), 5);
        x.day(5);
        due("back", x.back(), 5);
        x.day(7);
        due("another", x.image(), 12);
        due("back", x.back(), 12);
        due("no step", x.about(2), 12);
    }

    static void p52() {
        DeltaNests x = lossless();
        x.set(0, 1, 2, 50);
        x.set(0, 1, 1, 50);
        x.send(0, 1);
        x.said(0, 1, 1, 1);
        x.delay(4);
        x.day(1);
        due("image", x.image(), 1);
        int digest = x.digest(0);
        x.undo();
        x.undo();
        x.undo();
        x.set(0, 3, 0, 99);
        x.day(12);
        x.day(12);
        x.day(12);
        x.said(NONE, 0, 0, 0);
        x.delay(9);
        read(x, "loses 10;");
        x.by(1);
        read(x, "loses 11");
        x.feed(0, 0, 0, 0, 0);
        for (int i = 0; i < 2; i++) {
            due("back", x.back(), 1);
            due("the tape stays", x.about(4), 20);
            due("the fault stays", x.fault(1), 8);
            due("texts", x.about(0), 1);
            due("the text", x.about(1), 0);
            due("steps", x.about(2), 4);
            due("said", x.about(3), 1);
            due("delay", x.about(5), 4);
            due("digest", x.digest(0), digest);
            due("in flight", x.flight(NONE, 0), 1);
            due("came", x.day(1), 1);
            due("as it was sent", x.digest(1), digest);
            due("undo", x.undo(), 4);
            due("undo", x.undo(), 3);
            due("undo", x.undo(), 2);
            due("undo", x.undo(), 1);
            due("undo", x.undo(), 0);
            due("the first", x.entry(0, NONE, 0), 0);
            x.set(0, 0, 0, 1);
            x.day(10);
        }
    }

    static void p53() {
        DeltaNests x = new DeltaNests();
        read(x, "loses 0;");
        read(x, "loses 0;");
        x.by(1);
        x.delay(9);
        x.set(0, 0, 0, 0);
        x.day(3);
        x.said(0, 1, 0, 0);
        x.feed(0, 0, 0, 0, 0);
        x.end(3);
        int[] about = {2, 1, 4, 1, 3, 9};
        for (int what = 0; what < 6; what++) {
            due("about " + what, x.about(what), about[what]);
        }
        due("others", x.about(6), -2);
        due("others", x.about(-1), -2);
        x.by(NONE);
        due("none", x.about(1), NONE);
    }
}
