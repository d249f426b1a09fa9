/** Promises 33 to 35: compare, years, drawn. */
public final class YearsTest {
    public static void main(String[] args) {
        compare();
        edges();
        asByCalls();
        ends();
        kept();
        Check.finish();
    }

    private static void compare() {
        StatueRelief x = new StatueRelief();
        x.man(5, 1);
        x.man(4, 6);
        Check.law(x, "notices 20+man");
        Check.law(x, "notices 40+tired+held");
        Check.due("without a LAW", x.compare(-1, 0, 1), 3);
        Check.due("LAW 0, though nobody is UP", x.compare(0, 1, 0), 21);
        x.force(0);
        Check.due("NONE in place of that in FORCE", x.compare(-1, 0, 1), 3);
        Check.due("LAW 1", x.compare(1, 0, 1), 40);
        x.relieve(0);
        x.pass();
        x.pass();
        Check.due("as all is now", x.compare(1, 0, 1), 44);
        Check.due("that in FORCE is still", x.count(13), 0);
        Check.due("and tells", x.two(0, 1, 1), 20);
        Check.due("no such LAW", x.compare(2, 0, 1), -1);
        Check.due("LAW -2", x.compare(-2, 0, 1), -1);
        Check.due("one alone", x.compare(0, 1, 1), -1);
        Check.due("no such MAN", x.compare(0, 2, 1), -1);
        Check.due("nor such one", x.compare(0, 1, -1), -1);
        Check.due("it is no refusal", x.status() + x.count(9), 0);
    }

    private static void edges() {
        StatueRelief x = new StatueRelief();
        Check.refused("no MEN", x, x.years(0, 1), -3);
        Check.refused("no MEN, and n 0", x, x.years(0, 0), -1);
        x.man(3, 3);
        Check.due("drawn ahead of any", x.drawn(0, 0), -1);
        Check.refused("n 0", x, x.years(0, 0), -1);
        Check.refused("n 61", x, x.years(0, 61), -1);
        Check.refused("SEED -1", x, x.years(-1, 1), -1);
        Check.refused("SEED 1,000,001", x, x.years(1_000_001, 1), -1);
        Check.due("drawn ahead of any that was not REFUSED", x.drawn(0, 0), -1);
        x.years(1_000_000, 60);
        Check.due("status", x.status(), 0);
        Check.due("on paper", x.count(14) + x.count(6), 0);
        Check.due("no such MAN", x.drawn(1, 0), -1);
        Check.due("MAN -1", x.drawn(-1, 0), -1);
        Check.due("what 3", x.drawn(0, 3), -1);
        Check.due("what -1", x.drawn(0, -1), -1);
    }

    /** The same by calls on another object, told by the document's rule for DRAWS. */
    private static void asByCalls() {
        for (int seed = 0; seed < 200; seed++) {
            StatueRelief x = men(seed);
            StatueRelief y = men(seed);
            int n = 1 + seed % 60;
            long s = seed * 5003L;
            int shook = 0;
            for (int i = 0; i < n; i++) {
                s = (s * 1103 + 12345) % 1_000_003;
                int man = (int) (s % y.count(0));
                s = (s * 1103 + 12345) % 1_000_003;
                int deed = (int) (s % 8);
                if (deed < 5) {
                    y.relieve(man);
                } else if (deed == 5) {
                    y.sneeze(man);
                } else if (deed == 6) {
                    y.pardon(man);
                }
                shook += y.pass();
            }
            Check.due("years " + seed, x.years(seed * 5003, n), shook);
            for (int m = 0; m < y.count(0); m++) {
                Check.due("TIRED " + m, x.drawn(m, 0), y.of(m, 2));
                Check.due("CASHIERED " + m, x.drawn(m, 1), y.of(m, 3));
                Check.due("UP " + m, x.drawn(m, 2), m == 0 ? y.count(2) : -1);
            }
            Check.due("nothing is touched", x.count(14) + x.count(1) - x.count(0) + x.count(2) + x.count(3), -1);
        }
    }

    private static StatueRelief men(int seed) {
        StatueRelief x = new StatueRelief();
        for (int m = 0; m <= seed % 7; m++) {
            x.man(1 + (m * 5 + seed) % 9, m * 9 + 1);
        }
        if (seed % 3 == 0) {
            Check.inForce(x, "tires 1+hour%3;rests 2 if held>1;bars if man=hour%4");
        }
        return x;
    }

    private static void ends() {
        StatueRelief x = new StatueRelief();
        x.man(1, 1);
        x.terms(0, 999);
        Check.due("at HOUR 999 it ends at once", x.years(7, 60), 0);
        Check.due("kept", x.drawn(0, 2), -1);
        Check.due("kept", x.drawn(0, 0), 0);
        // With SEED 3 the first three of the second DRAWS tell of a relief, which can't be as it is; the fourth of a sneeze.
        StatueRelief y = new StatueRelief();
        y.man(9, 1);
        y.relieve(0);
        y.terms(0, 997);
        Check.inForce(y, "bars;tires 2");
        y.years(3, 60);
        Check.due("two HOURS alone", y.drawn(0, 0), 4);
        Check.due("UP still", y.drawn(0, 2), 0);
        Check.due("not CASHIERED", y.drawn(0, 1), 0);
        Check.due("HOUR", y.count(14), 997);
    }

    private static void kept() {
        StatueRelief x = new StatueRelief();
        x.man(9, 1);
        x.man(9, 1);
        x.image(0);
        x.relieve(1);
        x.years(5, 1);
        int tired = x.drawn(1, 0);
        int up = x.drawn(0, 2);
        x.man(9, 2);
        Check.due("who came later was not in them", x.drawn(2, 0), -1);
        x.sneeze(0);
        x.years(0, 99);
        x.back(0);
        Check.due("kept behind a REFUSED one, a sneeze, back()", x.drawn(1, 0), tired);
        Check.due("UP", x.drawn(0, 2), up);
        x.terms(0, 999);
        x.years(5, 1);
        Check.due("the latest alone", x.drawn(0, 2), -1);
    }
}
