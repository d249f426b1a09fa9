/** Promises 2 to 5: man, of, two, terms. */
public final class MenTest {
    public static void main(String[] args) {
        man();
        of();
        two();
        terms();
        Check.finish();
    }

    private static void man() {
        StatueRelief x = new StatueRelief();
        int[][] wrong = {{0, 0}, {10, 0}, {-1, 0}, {1, -1}, {1, 64}, {Integer.MIN_VALUE, 0}, {1, Integer.MAX_VALUE}};
        for (int[] w : wrong) {
            Check.refused("man(" + w[0] + ", " + w[1] + ")", x, x.man(w[0], w[1]), -1);
        }
        Check.due("none came", x.count(0), 0);
        for (int i = 0; i < 7; i++) {
            Check.due("man", x.man(i == 0 ? 1 : 9, i == 1 ? 63 : i == 2 ? 0 : i), i);
            Check.due("status", x.status(), 0);
        }
        Check.refused("the eighth", x, x.man(1, 1), -5);
        Check.refused("the eighth, and one that can't be", x, x.man(0, 1), -1);
        Check.due("men", x.count(0), 7);
        StatueRelief y = new StatueRelief();
        y.man(3, 3);
        y.pass();
        y.man(10, 3);
        Check.due("a REFUSED man() leaves what can be undone", y.count(6), 1);
        y.man(3, 3);
        Check.due("man() does not", y.count(6), 0);
    }

    private static void of() {
        StatueRelief x = new StatueRelief();
        x.man(3, 42);
        x.man(1, 7);
        Check.due("HOLD", x.of(0, 0), 3);
        Check.due("LOOK", x.of(0, 1), 42);
        Check.due("TIRED", x.of(0, 2), 0);
        Check.due("CASHIERED", x.of(0, 3), 0);
        Check.due("UP", x.of(0, 4), 0);
        Check.due("TIRES without a LAW", x.of(0, 5), 1);
        Check.due("RESTS without a LAW", x.of(0, 6), 1);
        Check.due("BARRED", x.of(0, 7), 0);
        Check.due("could RELIEVE", x.of(0, 8), 1);
        x.relieve(0);
        x.pass();
        x.pass();
        Check.due("TIRED", x.of(0, 2), 2);
        Check.due("UP", x.of(0, 4), 1);
        Check.due("the other is not", x.of(1, 4), 0);
        Check.due("who is UP could not RELIEVE", x.of(0, 8), 0);
        x.relieve(1);
        x.pass();
        Check.due("as TIRED as his HOLD", x.of(1, 2), 1);
        x.relieve(0);
        Check.due("as TIRED as his HOLD: could not", x.of(1, 8), 0);
        x.sneeze(1);
        Check.due("CASHIERED", x.of(1, 3), 1);
        x.pass();
        Check.due("CASHIERED ones rest, too", x.of(1, 2), 0);
        Check.due("CASHIERED: could not", x.of(1, 8), 0);
        Check.inForce(x, "bars if man = 1;tires 12 if man = 0;tires 0-3 if man = 1;rests tired+5");
        Check.due("BARRED", x.of(1, 7), 1);
        Check.due("not BARRED", x.of(0, 7), 0);
        Check.due("TIRES 9 at most", x.of(0, 5), 9);
        Check.due("TIRES 0 at least", x.of(1, 5), 0);
        Check.due("RESTS", x.of(1, 6), 5);
        Check.due("what 9", x.of(0, 9), -1);
        Check.due("what -1", x.of(0, -1), -1);
        Check.due("no such MAN", x.of(2, 0), -1);
        Check.due("MAN -1", x.of(-1, 4), -1);
        Check.due("far beyond", x.of(Integer.MAX_VALUE, Integer.MIN_VALUE), -1);
    }

    private static void two() {
        StatueRelief x = new StatueRelief();
        x.man(3, 63);
        x.man(3, 0);
        x.man(3, 21);
        Check.due("UNLIKE by all", x.two(0, 1, 0), 6);
        Check.due("UNLIKE", x.two(2, 0, 0), 3);
        Check.due("NOTICED without a LAW", x.two(2, 1, 1), 3);
        Check.due("one alone", x.two(1, 1, 0), -1);
        Check.due("one alone, NOTICED", x.two(1, 1, 1), -1);
        Check.due("what 2", x.two(0, 1, 2), -1);
        Check.due("what -1", x.two(0, 1, -1), -1);
        Check.due("no such one", x.two(3, 1, 0), -1);
        Check.due("no such other", x.two(1, 3, 0), -1);
        Check.due("-1", x.two(-1, 1, 0), -1);
        Check.inForce(x, "notices man*10+other+unlike");
        Check.due("the LAW tells, though nobody is UP", x.two(2, 1, 1), 24);
        Check.due("the other way round", x.two(1, 2, 1), 15);
        Check.due("UNLIKE is not by the LAW", x.two(1, 2, 0), 3);
    }

    private static void terms() {
        StatueRelief x = new StatueRelief();
        int[] first = {0, 1, 0, 2};
        int[] most = {999, 10, 9, 99};
        for (int what = 0; what < 4; what++) {
            Check.refused("below 0", x, x.terms(what, -1), -1);
            Check.refused("beyond", x, x.terms(what, most[what] + 1), -1);
            Check.due("TERM " + what, x.terms(what, most[what]), first[what]);
            Check.due("status", x.status(), 0);
            Check.due("TERM " + what + " then", x.count(14 + what), most[what]);
            Check.due("and back", x.terms(what, 0), most[what]);
        }
        Check.refused("TERM 4", x, x.terms(4, 0), -1);
        Check.refused("TERM -1", x, x.terms(-1, 0), -1);
        x.pass();
        x.terms(0, 1000);
        Check.due("REFUSED, it leaves what can be undone", x.count(6), 1);
        x.terms(2, 0);
        Check.due("terms() does not", x.count(6), 0);
        Check.refused("undo", x, x.undo(), -3);
    }
}
