/** Terms I and promises 1 to 5: each bound from both sides, a sentence of the document above each test. */
public final class EdgeMenTest {
    private static final int LEAST = Integer.MIN_VALUE;
    private static final int MOST = Integer.MAX_VALUE;

    public static void main(String[] args) {
        sevenMen();
        holds();
        looks();
        features();
        atFirst();
        tired();
        held();
        terms();
        termsAreApart();
        of();
        two();
        Check.finish();
    }

    /** "MEN 0 .. 6 (7 at most)"; man: "his number. -1; -5". */
    private static void sevenMen() {
        StatueRelief x = new StatueRelief();
        for (int i = 0; i <= 6; i++) {
            Check.due("there is no MAN " + i + " yet", x.of(i, 0), -1);
            Check.due("MAN " + i, x.man(i + 1, i + 7), i);
            Check.due("status", x.status(), 0);
        }
        Check.refused("an eighth", x, x.man(1, 1), -5);
        Check.due("7 MEN", x.count(0), 7);
        Check.due("there is no MAN 7", x.of(7, 0), -1);
        for (int i = 0; i <= 6; i++) {
            Check.due("HOLD " + i, x.of(i, 0), i + 1);
            Check.due("LOOK " + i, x.of(i, 1), i + 7);
        }
        Check.refused("-1 is ahead of -5: HOLD", x, x.man(0, 1), -1);
        Check.refused("-1 is ahead of -5: LOOK", x, x.man(1, 64), -1);
    }

    /** "HOLD 1 .. 9". */
    private static void holds() {
        StatueRelief x = new StatueRelief();
        for (int hold : new int[] {0, 10, -1, 255, LEAST, MOST, 257}) {
            Check.refused("HOLD " + hold, x, x.man(hold, 5), -1);
        }
        Check.due("nobody came", x.count(0), 0);
        Check.due("HOLD 1", x.man(1, 5), 0);
        Check.due("HOLD 9", x.man(9, 5), 1);
        Check.due("1", x.of(0, 0), 1);
        Check.due("9", x.of(1, 0), 9);
    }

    /** "a LOOK of FEATURES 0 .. 5, told as bits 0 .. 63". */
    private static void looks() {
        StatueRelief x = new StatueRelief();
        for (int look : new int[] {-1, 64, 128, LEAST, MOST, 256}) {
            Check.refused("LOOK " + look, x, x.man(5, look), -1);
        }
        Check.due("nobody came", x.count(0), 0);
        Check.due("LOOK 0", x.man(5, 0), 0);
        Check.due("LOOK 63", x.man(5, 63), 1);
        Check.due("0", x.of(0, 1), 0);
        Check.due("63", x.of(1, 1), 63);
    }

    /** "UNLIKE are two MEN by how many FEATURES one of them alone has": each of the six counts, 0 to 6 of them. */
    private static void features() {
        for (int feature = 0; feature <= 5; feature++) {
            StatueRelief x = Check.men(1, 0, 1, 1 << feature, 1, 63);
            Check.due("FEATURE " + feature + " alone", x.two(0, 1, 0), 1);
            Check.due("the other way round", x.two(1, 0, 0), 1);
            Check.due("all but " + feature, x.two(1, 2, 0), 5);
        }
        StatueRelief x = Check.men(1, 42, 1, 42, 1, 21);
        Check.due("by none", x.two(0, 1, 0), 0);
        Check.due("by all, none of which both have", x.two(0, 2, 0), 6);
        Check.due("what both have does not count", Check.men(1, 62, 1, 31).two(0, 1, 0), 2);
    }

    /** "TIRED .. (0 at first), CASHIERED or not (at first). One is UP, or nobody (at first); HELD .. (0, if nobody is)". */
    private static void atFirst() {
        StatueRelief x = new StatueRelief();
        Check.due("nobody is UP on an empty plinth", x.count(2), -1);
        Check.due("HELD 0", x.count(3), 0);
        x.man(9, 63);
        Check.due("TIRED 0", x.of(0, 2), 0);
        Check.due("not CASHIERED", x.of(0, 3), 0);
        Check.due("not UP", x.of(0, 4), 0);
        Check.due("nobody is UP", x.count(2), -1);
        Check.due("one is not CASHIERED", x.count(1), 1);
    }

    /** "TIRED 0 .. 99": less than 0 one never is; by HOLD 9 and 9 in an HOUR it is 18 at most, and he SHAKES then. */
    private static void tired() {
        StatueRelief x = Check.men(9, 0, 2, 0);
        Check.inForce(x, "tires 9;rests 9");
        x.pass();
        Check.due("0 at least, TIRED 0", x.of(0, 2), 0);
        x.relieve(0);
        Check.due("9 are as many as his HOLD", x.pass(), 0);
        Check.due("TIRED 9", x.of(0, 2), 9);
        Check.due("18 are more", x.pass(), 1);
        Check.due("TIRED 18", x.of(0, 2), 18);
        x.pass();
        Check.due("TIRED 9 again", x.of(0, 2), 9);
        x.pass();
        Check.due("and 0", x.of(0, 2), 0);
        x.relieve(1);
        x.pass();
        Check.due("TIRED 9 by HOLD 2", x.of(1, 2), 9);
        Check.inForce(x, "rests 8");
        x.pass();
        Check.due("TIRED 1", x.of(1, 2), 1);
        x.pass();
        Check.due("0 at least, TIRED 1", x.of(1, 2), 0);
    }

    /** "HELD: for how many HOURS, 0 .. 99 (0, if nobody is)". */
    private static void held() {
        StatueRelief x = Check.men(9, 0, 9, 0);
        Check.inForce(x, "tires 0");
        x.pass();
        Check.due("an HOUR of nobody", x.count(3), 0);
        x.relieve(0);
        Check.due("0", x.count(3), 0);
        Check.passes(x, 98);
        Check.due("98", x.count(3), 98);
        x.pass();
        Check.due("99", x.count(3), 99);
        x.pass();
        Check.due("99 at most", x.count(3), 99);
        Check.due("UP still", x.count(2), 0);
        Check.inForce(x, "tires 1 if held = 99");
        Check.due("a LAW sees 99", x.of(0, 5), 1);
        x.relieve(1);
        Check.due("another one's", x.count(3), 0);
        x.pass();
        x.sneeze(1);
        Check.due("nobody's", x.count(3), 0);
    }

    /** "TERMS: 0 HOUR 0 .. 999 (0 at first), 1 SNEEZES 0 .. 10 (1), 2 WEATHER 0 .. 9 (0), 3 EYES 0 .. 99 (2)". */
    private static void terms() {
        int[] first = {0, 1, 0, 2};
        int[] most = {999, 10, 9, 99};
        for (int what = 0; what <= 3; what++) {
            StatueRelief x = new StatueRelief();
            Check.due("TERM " + what + " at first", x.count(14 + what), first[what]);
            for (int value : new int[] {-1, most[what] + 1, LEAST, MOST}) {
                Check.refused("TERM " + what + ": " + value, x, x.terms(what, value), -1);
            }
            Check.due("as it was", x.count(14 + what), first[what]);
            Check.due("the most", x.terms(what, most[what]), first[what]);
            Check.due("the most is kept", x.count(14 + what), most[what]);
            Check.due("the least", x.terms(what, 0), most[what]);
            Check.due("the least is kept", x.count(14 + what), 0);
            Check.due("what it is already", x.terms(what, 0), 0);
        }
        StatueRelief x = new StatueRelief();
        for (int what : new int[] {-1, 4, LEAST, MOST}) {
            Check.refused("TERM " + what, x, x.terms(what, 0), -1);
        }
    }

    /** A TERM is set, and no other one. */
    private static void termsAreApart() {
        for (int what = 0; what <= 3; what++) {
            StatueRelief x = new StatueRelief();
            x.terms(what, 7);
            for (int other = 0; other <= 3; other++) {
                int due = other == what ? 7 : new int[] {0, 1, 0, 2}[other];
                Check.due("TERM " + other + " behind terms(" + what + ", 7)", x.count(14 + other), due);
            }
        }
    }

    /** of: "HOLD (what 0) .. whether he could RELIEVE (8 ..). NONE." */
    private static void of() {
        StatueRelief x = Check.men(3, 5, 4, 6);
        for (int what : new int[] {-1, 9, LEAST, MOST}) {
            Check.due("of(0, " + what + ")", x.of(0, what), -1);
        }
        for (int what = 0; what <= 8; what++) {
            for (int man : new int[] {-1, 2, 6, 7, LEAST, MOST}) {
                Check.due("of(" + man + ", " + what + ")", x.of(man, what), -1);
            }
        }
        Check.due("the first", x.of(0, 0), 3);
        Check.due("the last", x.of(1, 0), 4);
        Check.due("nobody of nobody", new StatueRelief().of(0, 0), -1);
        Check.due("it is no refusal", x.status() + x.count(8) + x.count(9), 0);
        couldRelieve();
    }

    /** "whether he could RELIEVE": "not UP, not CASHIERED, not BARRED, less TIRED than his HOLD". */
    private static void couldRelieve() {
        StatueRelief x = Check.men(2, 0, 9, 0);
        Check.due("nobody is UP", x.of(0, 8), 1);
        x.relieve(0);
        Check.due("he is UP", x.of(0, 8), 0);
        Check.due("another one", x.of(1, 8), 1);
        x.pass();
        x.relieve(1);
        Check.due("TIRED 1 of HOLD 2", x.of(0, 8), 1);
        x.undo();
        x.pass();
        x.relieve(1);
        Check.due("TIRED 2 of HOLD 2", x.of(0, 8), 0);
        x.pass();
        Check.due("TIRED 1 again", x.of(0, 8), 1);
        x.sneeze(0);
        Check.due("CASHIERED", x.of(0, 8), 0);
        x.pardon(0);
        Check.due("pardoned", x.of(0, 8), 1);
        Check.inForce(x, "bars if man = 0");
        Check.due("BARRED", x.of(0, 8), 0);
        Check.due("BARRED (7)", x.of(0, 7), 1);
    }

    /** two: "by how many FEATURES (what 0), by how many EYES (1 ..). NONE (one alone; others)." */
    private static void two() {
        StatueRelief x = Check.men(3, 5, 4, 6, 5, 63);
        for (int what : new int[] {-1, 2, LEAST, MOST}) {
            Check.due("two(0, 1, " + what + ")", x.two(0, 1, what), -1);
        }
        for (int what = 0; what <= 1; what++) {
            for (int man = 0; man <= 2; man++) {
                Check.due("one alone", x.two(man, man, what), -1);
            }
            for (int man : new int[] {-1, 3, LEAST, MOST}) {
                Check.due("two(" + man + ", 0, " + what + ")", x.two(man, 0, what), -1);
                Check.due("two(0, " + man + ", " + what + ")", x.two(0, man, what), -1);
                Check.due("two(" + man + ", " + man + ", " + what + ")", x.two(man, man, what), -1);
            }
        }
        Check.due("the last for the first", x.two(2, 0, 1), 4);
        Check.due("there is nobody", new StatueRelief().two(0, 1, 0), -1);
        Check.due("there is one", Check.men(1, 1).two(0, 1, 0), -1);
        Check.due("it is no refusal", x.status() + x.count(8) + x.count(9), 0);
    }
}
