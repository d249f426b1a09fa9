/** Terms II, ORDERS, and promises 11, 13: each bound from both sides. */
public final class EdgeOrdersTest {
    public static void main(String[] args) {
        times();
        menOfTired();
        partsAside();
        mostThatCanBeRun();
        nothingIsRun();
        aMan();
        brokenSum();
        ifEachTime();
        done();
        latest();
        up();
        held();
        fit();
        endedByEach();
        allAsItWas();
        stopped();
        undone();
        Check.finish();
    }

    private static StatueRelief men() {
        return Check.men(5, 1, 4, 6, 3, 63);
    }

    private static void fault(String text, int place) {
        StatueRelief x = men();
        Check.refused(text, x, Check.orders(x, text), -6);
        Check.due("FAULT of " + text, x.fault(), place);
        Check.due("nothing was run", x.count(6) + x.count(14), 0);
    }

    private static void run(String text, int done) {
        StatueRelief x = men();
        Check.due(text, Check.orders(x, text), done);
        Check.due("status", x.status(), 0);
        Check.due("FAULT", x.fault(), -1);
        Check.due("the TAPE is empty", x.count(7), 0);
    }

    /** "TIMES: a NUMBER 1 .. 20"; "each as often as TIMES tell (once without)". */
    private static void times() {
        run("pass", 1);
        run("pass times 1", 1);
        run("pass times 2", 2);
        run("pass times 20", 20);
        run("pass times 020", 20);
        fault("pass times 0", 11);
        fault("pass times 00", 11);
        fault("pass times 21", 11);
        fault("pass times 1000", 11);
        fault("pass times 4294967297", 11);
        fault("pass times -1", 11);
        fault("pass times", 10);
        fault("pass times if 1=1", 11);
        fault("pass times [1]", 11);
        fault("pass times hour", 11);
        fault("pass times 1 1", 13);
        fault("pass times 1+1", 12);
        fault("pass if 1=1 times 1", 12);
    }

    /** ""tired" M (M: a NUMBER 0 .. 6)"; "tired: of a MAN (-1 without such a one)". */
    private static void menOfTired() {
        run("pass if tired 0 = 0", 1);
        run("pass if tired 2 = 0", 1);
        run("pass if tired 3 = 0-1", 1);
        run("pass if tired 6 = 0-1", 1);
        run("pass if tired 006 = 0-1", 1);
        fault("pass if tired 7 = 0", 14);
        fault("pass if tired 10 = 0", 14);
        fault("pass if tired 4294967296 = 0", 14);
        fault("pass if tired = 0", 14);
        fault("pass if tired [0] = 0", 14);
        fault("pass if tired up = 0", 14);
        fault("pass if tired", 13);
        StatueRelief x = Check.men(1, 0, 1, 0, 1, 0, 1, 0, 1, 0, 1, 0, 9, 0);
        Check.due("of the last of seven", Check.orders(x, "relieve 6;pass times 5;pass if tired 6=5"), 7);
        Check.due("of nobody at all", Check.orders(new StatueRelief(), "pass if tired 0=0-1"), 1);
    }

    /** "M, TIMES aside, NUMBERS and words count as PARTS." */
    private static void partsAside() {
        run("pass times 2 if tired 0=0" + Check.times(24, "and tired 0=0"), 2);
        fault("pass times 2 if tired 0=0" + Check.times(24, "and tired 0=0") + "and up=1", 16 + 9 + 24 * 13 + 4);
        run("pass times 1;pass times 1 if 1=1" + Check.times(24, "and 1=1"), 2);
        fault("relieve 0 times 1 if 1=1" + Check.times(24, "and 1=1"), 21 + 3 + 7 * 23 + 6);
        fault("relieve up if 1=1" + Check.times(24, "and 1=1"), 14 + 3 + 7 * 23 + 6);
    }

    /** 12 CLAUSES of 20 times: 240. */
    private static void mostThatCanBeRun() {
        StatueRelief x = men();
        Check.due("240", Check.orders(x, "pass times 20" + Check.times(11, ";pass times 20")), 240);
        Check.due("HOUR 240", x.count(14), 240);
        Check.due("16 are kept", x.count(6), 16);
        x.terms(0, 760);
        Check.refused("of 239 that there is room for", x,
                Check.orders(x, "pass times 20" + Check.times(11, ";pass times 20")), -3);
        Check.due("stopped at the last", x.stopped(), 11);
        Check.due("HOUR 760", x.count(14), 760);
        x.terms(0, 759);
        Check.due("of 240", Check.orders(x, "pass times 20" + Check.times(11, ";pass times 20")), 240);
        Check.due("HOUR 999", x.count(14), 999);
    }

    /** A TEXT of which nothing is run is no refusal: "how many were run". */
    private static void nothingIsRun() {
        run("pass times 20 if 1=2;relieve 99 if 1=2;sneeze 1/0 if 1=2", 0);
        StatueRelief x = men();
        x.relieve(0);
        Check.due("none", Check.orders(x, "pass if 1=2"), 0);
        Check.due("what can be undone", x.count(6), 1);
        x.terms(0, 999);
        Check.due("at HOUR 999, too", Check.orders(x, "pass if 1=2"), 0);
    }

    /** "(a MAN; a MAN; a MAN; an HOUR.)": the first, the last, and just beyond. */
    private static void aMan() {
        run("relieve 0", 1);
        run("relieve 2", 1);
        run("sneeze 0;pardon 0", 2);
        run("sneeze 2;pardon 2", 2);
        for (String deed : new String[] {"relieve", "sneeze", "pardon"}) {
            for (String man : new String[] {"3", "0-1", "0-2", "7", "1000", "1000*1000*1000", "0-1000*1000*1000"}) {
                StatueRelief x = men();
                Check.refused(deed + " " + man, x, Check.orders(x, deed + " " + man), -3);
                Check.due("stopped", x.stopped(), 0);
                Check.due("by -3 alone", x.count(9) * 10 + x.count(10), 1);
            }
        }
        StatueRelief x = new StatueRelief();
        Check.refused("there is nobody", x, Check.orders(x, "sneeze 0"), -3);
    }

    /** "One that can't be (a BROKEN SUM ..) ends it". */
    private static void brokenSum() {
        for (String sum : new String[] {"1/0", "1%0", "1000*1000*1000+1", "0-1000*1000*1000-1", "1/[up-up]"}) {
            for (String deed : new String[] {"relieve ", "sneeze ", "pardon "}) {
                StatueRelief x = men();
                Check.refused(deed + sum, x, Check.orders(x, "pass;" + deed + sum), -3);
                Check.due("stopped", x.stopped(), 1);
                Check.due("HOUR", x.count(14), 0);
            }
        }
    }

    /** "each time its "if" is asked (not run, if it is not so or BROKEN), then its SUMS". */
    private static void ifEachTime() {
        run("pass times 20 if hour < 7", 7);
        run("pass times 20 if hour > 0", 0);
        run("pass times 5 if 1/[hour-2] < 9", 2);
        run("pass times 5 if not 1/[hour-2] > 9", 2);
        run("sneeze hour times 3 if hour > 0;pass", 1);
        run("sneeze done times 3", 3);
        run("sneeze 1/0 if 1/0=1", 0);
        StatueRelief x = men();
        x.relieve(0);
        Check.due("a SUM that each time is another one", Check.orders(x, "relieve 1-up times 3"), 3);
        Check.due("UP", x.count(2), 1);
    }

    /** "done: how many were run in this TEXT". */
    private static void done() {
        run("pass if done = 0;pass if done = 1;pass if done = 1", 2);
        run("pass if 1=2;pass if done = 0", 1);
        run("pass times 20;pass times 20 if done < 39", 39);
        StatueRelief x = men();
        Check.orders(x, "pass times 3");
        Check.due("of this TEXT", Check.orders(x, "pass if done = 0"), 1);
        Check.orders(x, "pass;sneeze 9");
        Check.due("of this TEXT, behind one that ended", Check.orders(x, "pass if done = 0"), 1);
    }

    /** "latest: what the latest relieve in it told (-1: none)". */
    private static void latest() {
        run("pass if latest = 0-1", 1);
        run("relieve 0;pass if latest = 0", 2);
        run("relieve 0;relieve 1;pass if latest = 3;relieve 2;pass if latest = 4", 5);
        run("relieve 0;relieve 1;sneeze 0;pardon 0;pass;pass if latest = 3", 6);
        run("relieve 0;relieve 9 if 1=2;pass if latest = 0", 2);
        StatueRelief x = men();
        x.relieve(0);
        x.relieve(1);
        Check.due("relieve() is not in it", Check.orders(x, "pass if latest = 0-1"), 1);
        Check.orders(x, "relieve 2;sneeze 9");
        Check.due("nor is one that ended", Check.orders(x, "pass if latest = 0-1"), 1);
    }

    /** "up: who is UP (-1: nobody)". */
    private static void up() {
        run("pass if up = 0-1", 1);
        run("relieve 0;pass if up = 0", 2);
        run("relieve 2;pass if up = 2;sneeze 2;pass if up = 0-1", 4);
        run("relieve 2;pass times 4;pass if up = 0-1", 6);
        run("relieve up+1 times 3", 3);
    }

    /** "held" of nobody is 0, and of one who is UP as it is then. */
    private static void held() {
        run("pass;pass if held = 0", 2);
        run("relieve 0;pass if held = 0;pass if held = 1;relieve 1;pass if held = 0", 5);
        run("relieve 0;pass times 2;sneeze 0;pass if held = 0", 5);
    }

    /** "fit: how many are not CASHIERED". */
    private static void fit() {
        run("pass if fit = 3;sneeze 0;sneeze 1;sneeze 2;pass if fit = 0", 5);
        run("sneeze 0;pardon 0;pass if fit = 3", 3);
        Check.due("of nobody", Check.orders(new StatueRelief(), "pass if fit = 0"), 1);
        run("relieve 2;pass times 4;pass if fit = 2", 6);
    }

    /** "as relieve(), sneeze(), pardon(), pass() are REFUSED": each, for each cause. */
    private static void endedByEach() {
        String[] texts = {"relieve 0", "relieve 1", "relieve 3", "sneeze 1", "sneeze 3", "pardon 0", "pardon 3",
            "relieve 2"};
        for (String text : texts) {
            StatueRelief x = men();
            // 0 is UP, 1 CASHIERED, 2 as TIRED as his HOLD, there is no 3.
            Check.orders(x, "relieve 2;pass times 3;relieve 0;sneeze 1");
            Check.refused(text, x, Check.orders(x, text), -3);
            Check.due("stopped", x.stopped(), 0);
            Check.due("what can be undone", x.count(6), 6);
        }
        StatueRelief x = men();
        Check.inForce(x, "bars if man = 1");
        Check.refused("BARRED", x, Check.orders(x, "relieve 1"), -3);
        x.terms(0, 999);
        Check.refused("at HOUR 999", x, Check.orders(x, "pass"), -3);
        x.terms(0, 998);
        Check.due("at HOUR 998", Check.orders(x, "pass"), 1);
    }

    /** "ends it: all is as it was ahead of it". */
    private static void allAsItWas() {
        StatueRelief x = men();
        x.relieve(0);
        x.pass();
        x.sneeze(2);
        Check.refused("at its end", x,
                Check.orders(x, "pass times 3;sneeze 1;pardon 2;relieve 2;pass;pardon 1;relieve 1;relieve 1"), -3);
        Check.due("stopped", x.stopped(), 7);
        int[] counts = {3, 2, 0, 1, 0, 0, 3, 0, 0, 0, 1, 0, 0, -1, 1, 1, 0, 2};
        for (int what = 0; what < counts.length; what++) {
            Check.due("count(" + what + ")", x.count(what), counts[what]);
        }
        int[] tired = {1, 0, 0};
        int[] cashiered = {0, 0, 1};
        for (int m = 0; m < 3; m++) {
            Check.due("TIRED " + m, x.of(m, 2), tired[m]);
            Check.due("CASHIERED " + m, x.of(m, 3), cashiered[m]);
        }
        Check.due("the sneeze", x.undo(), 1);
        Check.due("the pass", x.undo(), 3);
        Check.due("TIRED", x.of(0, 2), 0);
        Check.due("the relief", x.undo(), 0);
        Check.refused("no more", x, x.undo(), -3);
    }

    /** stopped: "Which CLAUSE of the latest orders() could not be. NONE." */
    private static void stopped() {
        StatueRelief x = men();
        Check.due("ahead of any", x.stopped(), -1);
        Check.orders(x, "sneeze 9");
        Check.due("the first", x.stopped(), 0);
        Check.orders(x, "pass" + Check.times(10, ";pass") + ";sneeze 9");
        Check.due("the twelfth", x.stopped(), 11);
        Check.orders(x, "pass;sneeze 0 times 2;pass");
        Check.due("the second, its second time", x.stopped(), 1);
        x.relieve(9);
        x.pass();
        Check.law(x, "no");
        Check.due("other calls leave it", x.stopped(), 1);
        Check.orders(x, "pass");
        Check.due("NONE behind one that was run", x.stopped(), -1);
        Check.orders(x, "sneeze 9");
        Check.orders(x, "sneeze");
        Check.due("NONE behind one that was not read", x.stopped(), -1);
    }

    /** undo: "(by ORDERS, too; 16 are kept)". */
    private static void undone() {
        StatueRelief x = men();
        x.sneeze(2);
        x.relieve(0);
        Check.due("15 more", Check.orders(x, "pass times 15 if hour < 99"), 15);
        Check.due("16 are kept", x.count(6), 16);
        for (int i = 0; i < 15; i++) {
            Check.due("a pass", x.undo(), 3);
        }
        Check.due("the relief", x.undo(), 0);
        Check.refused("the sneeze was the 17th", x, x.undo(), -3);
        Check.due("CASHIERED still", x.of(2, 3), 1);
        Check.due("20 at once", Check.orders(x, "pass times 20"), 20);
        Check.due("16 are kept", x.count(6), 16);
        for (int i = 0; i < 16; i++) {
            x.undo();
        }
        Check.due("four HOURS stay", x.count(14), 4);
        Check.refused("no more", x, x.undo(), -3);
    }
}
