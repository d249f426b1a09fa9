/** Terms III, on paper, and promises 20 to 23: each bound from both sides. */
public final class EdgePaperTest {
    private static final int LEAST = Integer.MIN_VALUE;
    private static final int MOST = Integer.MAX_VALUE;

    public static void main(String[] args) {
        holds99();
        holdsNone();
        holdsAside();
        holdsHeld();
        later();
        laterBeyond();
        laterNobody();
        moment12();
        momentLeast();
        momentCan();
        momentNone();
        rota1To5();
        rotaRows();
        rotaShakes();
        rotaCan();
        rotaFirst();
        beyond999();
        Check.finish();
    }

    private static StatueRelief with(String law, int... men) {
        StatueRelief x = Check.men(men);
        Check.inForce(x, law);
        return x;
    }

    /** "HOLDS: for how many HOURS, 99 at most". */
    private static void holds99() {
        for (int last : new int[] {0, 1, 97, 98, 99, 100}) {
            StatueRelief x = with("tires 0;tires 9 if hour > " + last + "-1", 1, 0);
            Check.due("SHAKES in HOUR " + last, x.holds(0), Math.min(last, 99));
        }
        Check.due("never", with("tires 0", 1, 0).holds(0), 99);
        Check.due("at once", with("tires 9", 8, 0).holds(0), 0);
        Check.due("as TIRED as his HOLD he does not", with("tires 9", 9, 0).holds(0), 1);
        for (int hold = 1; hold <= 9; hold++) {
            Check.due("HOLD " + hold, Check.men(hold, 0).holds(0), hold);
        }
    }

    /** holds: "NONE (no such MAN)". */
    private static void holdsNone() {
        StatueRelief x = Check.men(3, 0, 4, 0);
        Check.due("the first", x.holds(0), 3);
        Check.due("the last", x.holds(1), 4);
        for (int man : new int[] {-1, 2, 6, 7, LEAST, MOST}) {
            Check.due("holds(" + man + ")", x.holds(man), -1);
        }
        Check.due("nobody", new StatueRelief().holds(0), -1);
    }

    /** "as TIRED as he is"; "CASHIERED, BARRED aside". */
    private static void holdsAside() {
        StatueRelief x = Check.men(5, 0, 9, 0);
        Check.inForce(x, "rests 0;bars if man = 0 and hour > 1");
        x.relieve(0);
        Check.passes(x, 2);
        x.relieve(1);
        Check.due("BARRED", x.of(0, 7), 1);
        Check.due("TIRED 2 of 5, BARRED", x.holds(0), 3);
        x.sneeze(0);
        Check.due("CASHIERED, too", x.holds(0), 3);
        x.sneeze(1);
        Check.due("none is left", x.holds(1), 9);
        StatueRelief y = Check.men(3, 0);
        y.relieve(0);
        Check.passes(y, 4);
        Check.due("more TIRED than his HOLD", y.holds(0), 0);
        y.pass();
        Check.due("as TIRED as his HOLD", y.holds(0), 0);
        y.pass();
        Check.due("less", y.holds(0), 1);
        Check.due("nothing is done", y.count(14) * 10 + y.of(0, 3), 61);
    }

    /** "(HELD 0; as it is, if he is UP ..)". */
    private static void holdsHeld() {
        StatueRelief x = with("tires held", 9, 0, 9, 0);
        Check.due("0 1 2 3, then 10", x.holds(0), 4);
        x.relieve(0);
        x.pass();
        Check.due("TIRED 0, HELD 1: 1 2 3, then 10", x.holds(0), 3);
        x.pass();
        Check.due("TIRED 1, HELD 2: 3 6, then 10", x.holds(0), 2);
        Check.due("another one: HELD 0", x.holds(1), 4);
        StatueRelief y = with("tires 0", 9, 0);
        y.relieve(0);
        Check.passes(y, 98);
        Check.inForce(y, "tires 0;tires 1 if held = 99;tires 9 if held > 99");
        Check.due("HELD 98, then 99 at most, on paper, too", y.later(4, 1), 3);
        Check.due("an HOUR by 0, nine by 1", y.holds(0), 10);
    }

    /** later: "n 0 .. 60: who would be UP (what 0 ..), how TIRED MAN m would be (1 + m). NONE (others)." */
    private static void later() {
        StatueRelief x = with("tires 1 if hour = 59;tires 0 if hour < 59", 9, 0, 9, 0);
        x.relieve(0);
        Check.due("0 on", x.later(0, 1), 0);
        Check.due("59 on", x.later(59, 1), 0);
        Check.due("60 on", x.later(60, 1), 1);
        for (int n : new int[] {-1, 61, LEAST, MOST}) {
            for (int what = 0; what <= 2; what++) {
                Check.due("later(" + n + ", " + what + ")", x.later(n, what), -1);
            }
        }
        Check.due("who would be UP", x.later(60, 0), 0);
        Check.due("the last MAN", x.later(60, 2), 0);
        for (int what : new int[] {-1, 3, 7, 8, LEAST, MOST}) {
            Check.due("what " + what, x.later(0, what), -1);
        }
        Check.due("of nobody", new StatueRelief().later(0, 1), -1);
        Check.due("nobody is UP", new StatueRelief().later(60, 0), -1);
        StatueRelief y = Check.men(1, 0, 1, 0, 1, 0, 1, 0, 1, 0, 1, 0, 9, 0);
        y.relieve(6);
        Check.due("the seventh MAN", y.later(3, 7), 3);
        Check.due("no eighth", y.later(3, 8), -1);
    }

    /** "(On paper, HOURS go on beyond 999, too:)". */
    private static void laterBeyond() {
        StatueRelief x = with("tires 0;tires 1 if hour > 999", 9, 0, 9, 0);
        x.terms(0, 999);
        x.relieve(0);
        Check.due("0 on", x.later(0, 1), 0);
        Check.due("1 on: HOUR 999 passes", x.later(1, 1), 0);
        Check.due("2 on: HOUR 1,000 passes", x.later(2, 1), 1);
        Check.due("10 on", x.later(10, 1), 9);
        Check.due("SHAKES", x.later(11, 0), -1);
        Check.due("HOUR", x.count(14), 999);
    }

    /** "LATER: how all would be n HOURS on": nobody is UP behind one who SHAKES, and he rests. */
    private static void laterNobody() {
        StatueRelief x = Check.men(2, 0);
        x.relieve(0);
        int[] up = {0, 0, 0, -1, -1, -1, -1, -1};
        int[] tired = {0, 1, 2, 3, 2, 1, 0, 0};
        for (int n = 0; n < up.length; n++) {
            Check.due("UP, " + n + " on", x.later(n, 0), up[n]);
            Check.due("TIRED, " + n + " on", x.later(n, 1), tired[n]);
        }
        Check.due("nothing is done", x.count(14) + x.of(0, 2) + x.count(3), 0);
        Check.due("what can be undone", x.count(6), 1);
    }

    /** "The MOMENT for a MAN: the least n 0 .. 12 HOURS on". */
    private static void moment12() {
        for (int n = 0; n <= 14; n++) {
            StatueRelief x = with("tires 0;bars if hour < " + n, 9, 0, 9, 7);
            x.relieve(0);
            x.force(-1);
            x.relieve(1);
            x.force(0);
            Check.due("not BARRED from " + n + " on", x.moment(0, 0), n <= 12 ? n : -1);
            Check.due("NOTICED", x.moment(0, 1), n <= 12 ? 3 : -1);
        }
    }

    /** "and that is least NOTICED of these": the least n of those that are. */
    private static void momentLeast() {
        for (int n = 0; n <= 14; n++) {
            StatueRelief x = with("tires 0;notices 50;notices 7 if hour = " + n, 9, 0, 9, 7);
            x.relieve(0);
            Check.due("least in HOUR " + n, x.moment(1, 0), n <= 12 ? n : 0);
            Check.due("NOTICED", x.moment(1, 1), n <= 12 ? 7 : 50);
        }
        StatueRelief x = with("tires 0;notices 5;notices 3 if hour%4 = 3", 9, 0, 9, 7);
        x.relieve(0);
        Check.due("3, 7, 11: the first", x.moment(1, 0), 3);
        Check.due("NOTICED", x.moment(1, 1), 3);
        x = with("tires 0;notices 99", 9, 0, 9, 7);
        x.relieve(0);
        Check.due("99 EYES", x.moment(1, 1), 99);
        Check.due("all alike: the first", x.moment(1, 0), 0);
    }

    /** "at which he can RELIEVE": TIRED, CASHIERED, who is UP. */
    private static void momentCan() {
        StatueRelief x = Check.men(3, 0, 9, 7);
        Check.inForce(x, "tires 3 if man = 0;tires 0");
        x.relieve(0);
        Check.inForce(x, "tires 3 if man = 0;tires 0 if man = 1");
        x.pass();
        x.relieve(1);
        Check.due("as TIRED as his HOLD", x.of(0, 8), 0);
        Check.due("an HOUR on he is not", x.moment(0, 0), 1);
        Check.due("NOTICED", x.moment(0, 1), 3);
        Check.due("who is UP, and does not SHAKE", x.moment(1, 0), -1);
        Check.due("nor is it NOTICED", x.moment(1, 1), -1);
        x.sneeze(0);
        Check.due("CASHIERED", x.moment(0, 0), -1);
        Check.due("CASHIERED", x.moment(0, 1), -1);
        StatueRelief y = Check.men(1, 0, 9, 7);
        y.relieve(0);
        Check.due("when the other one has SHAKEN", y.moment(1, 0), 2);
        Check.due("by none", y.moment(1, 1), 0);
        Check.due("one who SHAKES can't any more", y.moment(0, 0), -1);
    }

    /** moment: "n (what 0) .. (1). NONE (at none he can; no such MAN; others)." */
    private static void momentNone() {
        StatueRelief x = Check.men(3, 0, 4, 0);
        for (int what : new int[] {-1, 2, LEAST, MOST}) {
            Check.due("what " + what, x.moment(0, what), -1);
        }
        for (int man : new int[] {-1, 2, 7, LEAST, MOST}) {
            Check.due("n for " + man, x.moment(man, 0), -1);
            Check.due("EYES for " + man, x.moment(man, 1), -1);
        }
        Check.due("nobody is UP: now", x.moment(1, 0), 0);
        Check.due("by none", x.moment(1, 1), 0);
    }

    /** "A ROTA of n HOURS 1 .. 5"; "the MAN of HOUR i (0 the first). NONE (there is none; others)." */
    private static void rota1To5() {
        StatueRelief x = Check.men(9, 0, 9, 7);
        x.relieve(1);
        for (int n : new int[] {0, -1, 6, LEAST, MOST}) {
            for (int i = -1; i <= 1; i++) {
                Check.due("rota(" + n + ", " + i + ")", x.rota(n, i), -1);
            }
        }
        for (int n = 1; n <= 5; n++) {
            Check.due("rota(" + n + ", NONE)", x.rota(n, -1), 0);
            for (int i = 0; i < n; i++) {
                Check.due("rota(" + n + ", " + i + ")", x.rota(n, i), 1);
            }
            for (int i : new int[] {n, 5, 6, -2, LEAST, MOST}) {
                Check.due("rota(" + n + ", " + i + ")", x.rota(n, i), -1);
            }
        }
        for (int n : new int[] {0, -1, 6, LEAST, MOST}) {
            Check.due("rota(" + n + ", NONE), behind one that is", x.rota(n, -1), -1);
        }
        Check.due("of nobody", new StatueRelief().rota(1, -1), -1);
        Check.due("of nobody", new StatueRelief().rota(1, 0), -1);
    }

    /** "that by which all reliefs together are least NOTICED". */
    private static void rotaRows() {
        // Each holds for an HOUR and rests in the next: 0 1 0 1 0 takes four reliefs by 1, nobody being UP at first.
        StatueRelief x = Check.men(1, 0, 1, 1, 1, 63);
        Check.due("0 1 0 1 0", x.rota(5, -1), 4);
        for (int i = 0; i < 5; i++) {
            Check.due("HOUR " + i, x.rota(5, i), i % 2);
        }
        x.relieve(2);
        Check.due("2 1 0 1 0: 5 and three by 1", x.rota(5, -1), 8);
        int[] row = {2, 1, 0, 1, 0};
        for (int i = 0; i < 5; i++) {
            Check.due("HOUR " + i, x.rota(5, i), row[i]);
        }
        StatueRelief y = with("notices 99;tires 1", 1, 0, 1, 0);
        y.relieve(0);
        Check.due("four by 99", y.rota(5, -1), 396);
        y.pass();
        Check.due("five by 99", y.rota(5, -1), 495);
    }

    /** "then the HOUR, by which he must not SHAKE". */
    private static void rotaShakes() {
        StatueRelief x = Check.men(4, 0);
        for (int n = 1; n <= 5; n++) {
            Check.due("n " + n + " by HOLD 4", x.rota(n, -1), n <= 4 ? 0 : -1);
            Check.due("the last of n " + n, x.rota(n, n - 1), n <= 4 ? 0 : -1);
        }
        x.relieve(0);
        Check.passes(x, 4);
        Check.due("he would SHAKE now", x.rota(1, -1), -1);
        StatueRelief y = with("tires 9", 9, 0, 8, 0);
        Check.due("as TIRED as his HOLD he does not", y.rota(1, 0), 0);
        Check.due("two can't be", y.rota(2, -1), -1);
        StatueRelief z = with("tires held", 1, 0);
        z.relieve(0);
        z.pass();
        Check.due("HELD as it is: 1", z.rota(1, -1), 0);
        Check.due("then 2", z.rota(2, -1), -1);
        StatueRelief h = with("tires held*9", 8, 0, 8, 0, 8, 63);
        h.relieve(2);
        h.pass();
        Check.due("HELD 0 for who RELIEVES, for an HOUR", h.rota(1, 0), 0);
        Check.due("by 6", h.rota(1, -1), 6);
        Check.due("then another one", h.rota(5, -1), 6);
        for (int i = 0; i < 5; i++) {
            Check.due("0 1 0 1 0", h.rota(5, i), i % 2);
        }
        Check.due("it is never below 0", with("tires 9 if held < 0", 8, 0).rota(1, 0), 0);
        h.undo();
        Check.due("2 could stay for an HOUR, but a row from 0 on is ahead of it", h.rota(5, 0), 0);
    }

    /** "or another one who RELIEVES him then, if that can be". */
    private static void rotaCan() {
        StatueRelief x = with("bars if man = 1 and hour < 1;bars if man = 2", 1, 0, 1, 7, 9, 0);
        Check.due("BARRED in HOUR 0, not in HOUR 1", x.rota(2, -1), 3);
        Check.due("0", x.rota(2, 0), 0);
        Check.due("1", x.rota(2, 1), 1);
        x.sneeze(0);
        Check.due("CASHIERED", x.rota(1, -1), -1);
        x.pass();
        Check.due("now he can", x.rota(1, 0), 1);
        Check.due("and no other one", x.rota(2, -1), -1);
        StatueRelief y = with("bars", 9, 0, 9, 0);
        Check.due("all are BARRED", y.rota(1, -1), -1);
        y.force(-1);
        y.relieve(1);
        y.force(0);
        Check.due("but he who is UP", y.rota(5, 4), 1);
        StatueRelief z = Check.men(2, 0, 9, 7);
        z.relieve(0);
        Check.passes(z, 2);
        z.relieve(1);
        Check.due("as TIRED as his HOLD he can't yet", z.rota(1, 0), 1);
    }

    /** "the first such as a row". */
    private static void rotaFirst() {
        StatueRelief x = Check.men(9, 5, 9, 5, 9, 5);
        for (int i = 0; i < 5; i++) {
            Check.due("all alike: 0", x.rota(5, i), 0);
        }
        x.relieve(2);
        for (int i = 0; i < 5; i++) {
            Check.due("all alike, 2 UP: 0", x.rota(5, i), 0);
        }
        StatueRelief y = Check.men(2, 5, 2, 5);
        int[] row = {0, 0, 1, 0, 1};
        for (int i = 0; i < 5; i++) {
            Check.due("0 0 1 0 1", y.rota(5, i), row[i]);
        }
    }

    /** HOLDS, a MOMENT, a ROTA: "(On paper, HOURS go on beyond 999, too:)". */
    private static void beyond999() {
        StatueRelief x = with("tires 0;tires 9 if hour > 1000+2;bars if hour < 1000+5", 1, 0, 1, 7);
        x.terms(0, 999);
        Check.due("HOLDS: 999 .. 1,002", x.holds(0), 4);
        Check.due("a MOMENT: 1,005", x.moment(1, 0), 6);
        x.force(-1);
        x.relieve(0);
        x.force(0);
        Check.due("a ROTA of four", x.rota(4, -1), 0);
        Check.due("none of five", x.rota(5, -1), -1);
        Check.due("HOUR", x.count(14), 999);
    }
}
