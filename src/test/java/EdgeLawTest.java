/** Terms II, LAWS, and promises 10, 12, 14, 33: each bound from both sides. */
public final class EdgeLawTest {
    private static final int LEAST = Integer.MIN_VALUE;
    private static final int MOST = Integer.MAX_VALUE;

    public static void main(String[] args) {
        sixLaws();
        noneAtFirst();
        force();
        fault();
        tiresAndRests();
        notices();
        nobodyIsUp();
        withoutOneThatHolds();
        lastThatHolds();
        brokenOnes();
        otherAndUnlike();
        otherAndUnlikeInDeeds();
        held();
        words();
        bars();
        compare();
        Check.finish();
    }

    private static StatueRelief with(String law) {
        StatueRelief x = Check.men(5, 1, 4, 6, 3, 63);
        Check.inForce(x, law);
        return x;
    }

    /** "LAWS, 6 at most"; law: "-5 (ahead of reading it; the TAPE is empty then, too)". */
    private static void sixLaws() {
        StatueRelief x = Check.men(9, 0);
        for (int i = 0; i <= 5; i++) {
            Check.tape(x, "tires " + (i + 2));
            Check.due("LAW " + i, x.law(), i);
            Check.due("status", x.status(), 0);
            Check.due("the TAPE is empty", x.count(7), 0);
            Check.due("LAWS", x.count(5), i + 1);
        }
        for (String text : new String[] {"tires 9", "tires tires", " ", ""}) {
            Check.refused("a seventh: " + text, x, Check.law(x, text), -5);
            Check.due("the TAPE is empty then, too", x.count(7), 0);
            Check.due("it was not read", x.fault(), -1);
            Check.due("LAWS", x.count(5), 6);
        }
        for (int i = 0; i <= 5; i++) {
            x.force(i);
            Check.due("LAW " + i + " tells", x.of(0, 5), i + 2);
        }
        StatueRelief y = new StatueRelief();
        for (int i = 0; i < 9; i++) {
            Check.refused("REFUSED ones take no room", y, Check.law(y, "bars bars"), -6);
        }
        Check.due("the first", Check.law(y, "bars"), 0);
    }

    /** "one is in FORCE (NONE at first: no CLAUSE)". */
    private static void noneAtFirst() {
        StatueRelief x = Check.men(9, 0, 9, 3);
        Check.due("NONE", x.count(13), -1);
        Check.law(x, "tires 7;rests 6;notices 50;bars");
        Check.due("NONE still", x.count(13), -1);
        Check.due("TIRES by 1", x.of(0, 5), 1);
        Check.due("RESTS by 1", x.of(0, 6), 1);
        Check.due("not BARRED", x.of(0, 7), 0);
        Check.due("NOTICED as they are UNLIKE", x.two(0, 1, 1), 2);
    }

    /** force: "A LAW is in FORCE (NONE: none): which was. -2. It leaves what can be undone." */
    private static void force() {
        StatueRelief x = Check.men(9, 0);
        Check.due("none, though there is none", x.force(-1), -1);
        Check.due("that is no refusal", x.status() + x.count(9), 0);
        Check.refused("there is no LAW", x, x.force(0), -2);
        Check.law(x, "tires 2");
        Check.law(x, "tires 3");
        x.relieve(0);
        for (int law : new int[] {2, -2, 5, 6, LEAST, MOST}) {
            Check.refused("LAW " + law, x, x.force(law), -2);
        }
        Check.due("NONE still", x.count(13), -1);
        Check.due("the last", x.force(1), -1);
        Check.due("the first", x.force(0), 1);
        Check.due("the same again", x.force(0), 0);
        Check.due("NONE", x.force(-1), 0);
        Check.due("what can be undone", x.count(6), 1);
        x.force(1);
        Check.due("the relief", x.undo(), 0);
        Check.due("in FORCE still", x.count(13), 1);
    }

    /** fault: "FAULT of the latest law(), orders() that read a TEXT: its place; NONE without." */
    private static void fault() {
        StatueRelief x = new StatueRelief();
        Check.due("ahead of any", x.fault(), -1);
        x.law();
        Check.due("an empty TAPE", x.fault(), 0);
        Check.law(x, "bars");
        Check.due("NONE without", x.fault(), -1);
        Check.orders(x, "pass;");
        Check.due("that of orders()", x.fault(), 5);
        Check.orders(x, "pass times 20");
        Check.due("NONE without", x.fault(), -1);
        Check.law(x, "tires");
        Check.orders(x, "sneeze 0");
        Check.due("REFUSED by -3, it was read", x.fault(), -1);
        for (int i = 0; i < 5; i++) {
            Check.law(x, "bars");
        }
        Check.orders(x, "pass pass");
        Check.law(x, "bars");
        Check.due("REFUSED by -5, it was not", x.fault(), 5);
        Check.tape(x, "bars bars bars");
        x.row();
        Check.due("row() reads no TEXT", x.fault(), 5);
    }

    /** "A MAN TIRES, RESTS in an HOUR by 0 .. 9 as the last such that HOLDS tells (else the nearest)". */
    private static void tiresAndRests() {
        String[] sums = {"0-1000*1000*1000", "0-1", "0", "1", "8", "9", "10", "1000*1000*1000"};
        int[] by = {0, 0, 0, 1, 8, 9, 9, 9};
        for (int i = 0; i < sums.length; i++) {
            StatueRelief x = with("tires " + sums[i] + ";rests 5");
            Check.due("tires " + sums[i], x.of(0, 5), by[i]);
            Check.due("rests 5", x.of(0, 6), 5);
            StatueRelief y = with("rests " + sums[i] + ";tires 5");
            Check.due("rests " + sums[i], y.of(0, 6), by[i]);
            Check.due("tires 5", y.of(0, 5), 5);
            x.relieve(0);
            x.pass();
            Check.due("TIRED by " + sums[i], x.of(0, 2), by[i]);
        }
    }

    /** "a relief is NOTICED by 0 .. 99 EYES". */
    private static void notices() {
        String[] sums = {"0-1000*1000*1000", "0-1", "0", "1", "98", "99", "100", "1000*1000*1000"};
        int[] by = {0, 0, 0, 1, 98, 99, 99, 99};
        for (int i = 0; i < sums.length; i++) {
            StatueRelief x = with("notices " + sums[i]);
            Check.due("notices " + sums[i], x.two(0, 1, 1), by[i]);
            Check.due("compared", x.compare(0, 0, 1), by[i]);
            x.relieve(1);
            Check.due("a relief", x.relieve(0), by[i]);
        }
    }

    /** "(by 0, if nobody is UP, whatever a LAW tells)". */
    private static void nobodyIsUp() {
        StatueRelief x = with("notices 50");
        Check.due("a relief of nobody", x.relieve(0), 0);
        Check.due("of one", x.relieve(1), 50);
        x.sneeze(1);
        Check.due("of nobody again", x.relieve(2), 0);
        x.sneeze(2);
        Check.due("a MOMENT", x.moment(0, 1), 0);
        Check.due("a ROTA", x.rota(1, -1), 0);
        Check.due("by ORDERS", Check.orders(x, "relieve 0;pass if latest = 0"), 2);
    }

    /** "by 1 without"; "as many as they are UNLIKE without". */
    private static void withoutOneThatHolds() {
        StatueRelief x = with("tires 7 if 1=2;rests 7 if 1=2;notices 70 if 1=2;bars if 1=2");
        Check.due("TIRES", x.of(0, 5), 1);
        Check.due("RESTS", x.of(0, 6), 1);
        Check.due("NOTICED", x.two(0, 1, 1), 3);
        Check.due("BARRED", x.of(0, 7), 0);
        StatueRelief y = with("bars if man=9");
        Check.due("TIRES without a CLAUSE", y.of(0, 5), 1);
        Check.due("RESTS without a CLAUSE", y.of(0, 6), 1);
        Check.due("NOTICED without a CLAUSE", y.two(2, 0, 1), 5);
    }

    /** "as the last such that HOLDS tells". */
    private static void lastThatHolds() {
        Check.due("the last", with("tires 2;tires 3;tires 4").of(0, 5), 4);
        Check.due("but one", with("tires 2;tires 3;tires 4 if 1=2").of(0, 5), 3);
        Check.due("the first", with("tires 2;tires 3 if 1=2;tires 4 if 1=2").of(0, 5), 2);
        Check.due("the only one, first of others", with("tires 2;rests 8;notices 80;bars").of(0, 5), 2);
        Check.due("the only one, last of others", with("bars;notices 80;tires 8;rests 2").of(0, 6), 2);
        Check.due("the last by its own end", with("notices 60;notices 0-5").two(0, 1, 1), 0);
    }

    /** "A CLAUSE HOLDS, if its "if" .. is so, and neither that nor its SUM is BROKEN." */
    private static void brokenOnes() {
        for (String broken : new String[] {"7/0", "7 if 1/0=1", "7 if not 1/0=1", "7/0 if 1=1"}) {
            StatueRelief x = with("tires 3;tires " + broken + ";rests 4;rests " + broken + ";notices 50;notices " + broken);
            Check.due("tires " + broken, x.of(0, 5), 3);
            Check.due("rests " + broken, x.of(0, 6), 4);
            Check.due("notices " + broken, x.two(0, 1, 1), 50);
        }
        Check.due("nothing but a BROKEN one", with("tires 7/0").of(0, 5), 1);
        Check.due("nothing but a BROKEN one", with("notices 70/0").two(0, 1, 1), 3);
        Check.due("a BROKEN \"bars\"", with("bars if 1/0=1").of(0, 7), 0);
        Check.due("a SUM that is not asked", with("tires 3;tires 7/0 if 1=2").of(0, 5), 3);
    }

    /** ""tires", "rests", "bars" are asked of a MAN (other, unlike -1)". */
    private static void otherAndUnlike() {
        String none = " if other = 0-1 and unlike = 0-1";
        StatueRelief x = with("tires 4" + none + ";rests 5" + none + ";bars" + none);
        for (int round = 0; round < 2; round++) {
            Check.due("tires", x.of(1, 5), 4);
            Check.due("rests", x.of(1, 6), 5);
            Check.due("bars", x.of(1, 7), 1);
            x.force(-1);
            x.relieve(0);
            x.force(0);
        }
        StatueRelief y = with("notices other*10+unlike");
        Check.due("the lowest other", y.two(1, 0, 1), 3);
        Check.due("the highest other", y.two(0, 2, 1), 25);
        Check.due("UNLIKE by none", alike().two(0, 1, 1), 40);
    }

    /** The same of what is done, and on paper: a relief, an HOUR, HOLDS, a MOMENT, a ROTA. */
    private static void otherAndUnlikeInDeeds() {
        String one = " if other > 0-1 or unlike > 0-1";
        StatueRelief x = with("tires 9" + one + ";rests 9" + one + ";bars" + one);
        x.relieve(0);
        Check.due("a relief of one who is UP", x.relieve(1), 3);
        Check.passes(x, 3);
        Check.due("he TIRES by 1", x.of(1, 2), 3);
        x.relieve(0);
        x.pass();
        Check.due("he RESTS by 1", x.of(1, 2), 2);
        Check.due("HOLDS", x.holds(0), 4);
        Check.due("a MOMENT", x.moment(1, 0), 5);
        Check.due("LATER", x.later(2, 2), 0);
        Check.due("a ROTA", x.rota(4, -1), 0);
    }

    private static StatueRelief alike() {
        StatueRelief x = Check.men(1, 9, 1, 9);
        Check.inForce(x, "notices 40+unlike");
        return x;
    }

    /** "held: how long the one who is UP was, 0 if nobody is". */
    private static void held() {
        StatueRelief x = with("tires held;rests held+1;notices 50+held;bars if held > 1");
        Check.due("nobody is: tires", x.of(1, 5), 0);
        Check.due("nobody is: notices", x.two(0, 1, 1), 50);
        x.relieve(0);
        x.pass();
        Check.due("of another MAN, too", x.of(1, 5), 1);
        Check.due("not BARRED at 1", x.of(1, 7), 0);
        x.pass();
        Check.due("BARRED at 2", x.of(1, 7), 1);
        Check.due("RESTS", x.of(2, 6), 3);
        Check.due("NOTICED", x.two(2, 1, 1), 52);
        x.sneeze(0);
        Check.due("nobody is any more", x.of(1, 5), 0);
        Check.due("not BARRED", x.of(1, 7), 0);
    }

    /** Each word at its ends. */
    private static void words() {
        StatueRelief x = Check.men(1, 0, 9, 0, 1, 0, 1, 0, 1, 0, 1, 0, 9, 0);
        Check.inForce(x, "tires man;rests hold;notices hour+weather");
        Check.due("man 0", x.of(0, 5), 0);
        Check.due("man 6", x.of(6, 5), 6);
        Check.due("hold 1", x.of(0, 6), 1);
        Check.due("hold 9", x.of(6, 6), 9);
        Check.due("hour 0, weather 0", x.two(0, 1, 1), 0);
        x.terms(2, 9);
        Check.due("weather 9", x.two(0, 1, 1), 9);
        x.terms(0, 90);
        Check.due("hour 90", x.two(0, 1, 1), 99);
        Check.inForce(x, "tires 3 if hour = 999 and weather = 9");
        x.terms(0, 999);
        Check.due("hour 999", x.of(0, 5), 3);
        StatueRelief y = Check.men(9, 0);
        Check.inForce(y, "tires 9;rests tired/2");
        y.relieve(0);
        y.pass();
        y.pass();
        Check.due("tired 18", y.of(0, 6), 9);
        y.pass();
        Check.due("tired 9", y.of(0, 6), 4);
    }

    /** "a MAN is BARRED, if "bars" HOLDS": any one of them. */
    private static void bars() {
        Check.due("the first", with("bars;bars if 1=2").of(0, 7), 1);
        Check.due("the last", with("bars if 1=2;bars").of(0, 7), 1);
        Check.due("none", with("bars if 1=2;bars if 1=2").of(0, 7), 0);
        StatueRelief x = with("bars if man = 1");
        Check.due("one ahead", x.of(0, 7), 0);
        Check.due("he", x.of(1, 7), 1);
        Check.due("one behind", x.of(2, 7), 0);
    }

    /** compare: "COMPARED. NONE (no such LAW; as for two())." */
    private static void compare() {
        StatueRelief x = Check.men(5, 1, 4, 6);
        Check.due("NONE: none", x.compare(-1, 0, 1), 3);
        Check.due("there is no LAW 0", x.compare(0, 0, 1), -1);
        Check.law(x, "notices 20");
        Check.law(x, "notices 30");
        Check.due("the first", x.compare(0, 0, 1), 20);
        Check.due("the last", x.compare(1, 1, 0), 30);
        x.force(1);
        Check.due("NONE: none, whatever is in FORCE", x.compare(-1, 0, 1), 3);
        for (int law : new int[] {2, -2, 6, LEAST, MOST}) {
            Check.due("LAW " + law, x.compare(law, 0, 1), -1);
        }
        for (int law = -1; law <= 1; law++) {
            Check.due("one alone", x.compare(law, 0, 0), -1);
            for (int man : new int[] {-1, 2, LEAST, MOST}) {
                Check.due("no such MAN", x.compare(law, man, 0), -1);
                Check.due("no such MAN", x.compare(law, 0, man), -1);
            }
        }
        Check.due("in FORCE still", x.count(13), 1);
        Check.due("it is no refusal", x.status() + x.count(9), 0);
    }
}
