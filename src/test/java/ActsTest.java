/** Promises 15 to 19: relieve, sneeze, pardon, pass, undo. */
public final class ActsTest {
    public static void main(String[] args) {
        relieve();
        sneeze();
        pardon();
        pass();
        passByLaw();
        undo();
        sixteen();
        Check.finish();
    }

    private static StatueRelief men() {
        StatueRelief x = new StatueRelief();
        x.man(2, 5);
        x.man(3, 7);
        x.man(1, 48);
        return x;
    }

    private static void relieve() {
        StatueRelief x = men();
        Check.refused("no such MAN", x, x.relieve(3), -2);
        Check.refused("-1", x, x.relieve(-1), -2);
        Check.due("nobody is UP", x.relieve(2), 0);
        Check.due("status", x.status(), 0);
        x.pass();
        Check.due("HELD", x.count(3), 1);
        Check.due("NOTICED by as many as UNLIKE", x.relieve(1), 5);
        Check.due("UP", x.count(2), 1);
        Check.due("HELD", x.count(3), 0);
        Check.refused("who is UP", x, x.relieve(1), -3);
        Check.refused("as TIRED as his HOLD", x, x.relieve(2), -3);
        Check.due("UP still", x.count(2), 1);
        x.pass();
        Check.due("rested", x.relieve(2), 5);
        x.sneeze(0);
        Check.refused("CASHIERED", x, x.relieve(0), -3);
        x.pardon(0);
        Check.inForce(x, "bars if man = 0;notices 40+hour");
        Check.refused("BARRED", x, x.relieve(0), -3);
        Check.due("by the LAW", x.relieve(1), 42);
    }

    private static void sneeze() {
        StatueRelief x = men();
        Check.refused("no such MAN", x, x.sneeze(3), -2);
        Check.refused("-1", x, x.sneeze(-1), -2);
        x.relieve(0);
        x.pass();
        Check.due("another one", x.sneeze(1), 2);
        Check.due("UP still", x.count(2), 0);
        Check.due("HELD still", x.count(3), 1);
        Check.due("who is UP", x.sneeze(0), 1);
        Check.due("nobody is UP", x.count(2), -1);
        Check.due("HELD", x.count(3), 0);
        Check.due("as TIRED as he was", x.of(0, 2), 1);
        Check.refused("twice", x, x.sneeze(0), -3);
        Check.due("the last", x.sneeze(2), 0);
        Check.due("none is left", x.count(1), 0);
    }

    private static void pardon() {
        StatueRelief x = men();
        Check.refused("no such MAN", x, x.pardon(3), -2);
        Check.refused("-1", x, x.pardon(-1), -2);
        Check.refused("one who is not CASHIERED", x, x.pardon(0), -3);
        x.relieve(1);
        x.pass();
        x.pass();
        x.sneeze(1);
        Check.due("TIRED", x.of(1, 2), 2);
        Check.due("pardoned", x.pardon(1), 3);
        Check.due("TIRED 0", x.of(1, 2), 0);
        Check.due("not CASHIERED", x.of(1, 3), 0);
        Check.due("not UP", x.of(1, 4), 0);
        Check.refused("twice", x, x.pardon(1), -3);
    }

    private static void pass() {
        StatueRelief x = men();
        Check.due("nobody is UP", x.pass(), 0);
        Check.due("HELD", x.count(3), 0);
        Check.due("HOUR", x.count(14), 1);
        x.relieve(0);
        Check.due("he holds", x.pass(), 0);
        Check.due("he holds, as TIRED as his HOLD", x.pass(), 0);
        Check.due("HELD", x.count(3), 2);
        Check.due("he SHAKES", x.pass(), 1);
        Check.due("TIRED", x.of(0, 2), 3);
        Check.due("CASHIERED", x.of(0, 3), 1);
        Check.due("nobody is UP", x.count(2), -1);
        Check.due("HELD", x.count(3), 0);
        Check.due("then nobody SHAKES", x.pass(), 0);
        Check.due("he rests", x.of(0, 2), 2);
        x.terms(0, 998);
        Check.due("the last HOUR", x.pass(), 0);
        Check.due("HOUR", x.count(14), 999);
        Check.refused("at 999 it can't be", x, x.pass(), -3);
        Check.due("nobody rested", x.of(0, 2), 1);
    }

    private static void passByLaw() {
        StatueRelief x = men();
        Check.inForce(x, "tires 0;rests 0");
        x.relieve(0);
        for (int i = 0; i < 105; i++) {
            x.pass();
        }
        Check.due("HELD, 99 at most", x.count(3), 99);
        Check.due("TIRED", x.of(0, 2), 0);
        StatueRelief y = men();
        Check.inForce(y, "tires 9;rests hour-1+held");
        y.relieve(1);
        Check.due("SHAKES at once", y.pass(), 1);
        Check.due("TIRED", y.of(1, 2), 9);
        Check.due("RESTS by 0 in HOUR 1", y.pass() + y.of(1, 2), 9);
        Check.due("RESTS by 1 in HOUR 2", y.pass() + y.of(1, 2), 8);
        y.relieve(2);
        Check.due("RESTS by 2 in HOUR 3, held asked ahead", y.pass() + y.of(1, 2), 7);
        Check.due("RESTS by 3 in HOUR 4", y.pass() + y.of(1, 2), 3);
        Check.due("0 at least", y.pass() + y.of(1, 2), 0);
    }

    private static void undo() {
        StatueRelief x = men();
        Check.refused("nothing", x, x.undo(), -3);
        x.relieve(0);
        x.pass();
        x.sneeze(0);
        x.pardon(0);
        Check.due("can be undone", x.count(6), 4);
        Check.due("the pardon", x.undo(), 2);
        Check.due("status", x.status(), 0);
        Check.due("CASHIERED again", x.of(0, 3), 1);
        Check.due("TIRED again", x.of(0, 2), 1);
        Check.due("the sneeze", x.undo(), 1);
        Check.due("UP again", x.count(2), 0);
        Check.due("HELD again", x.count(3), 1);
        Check.due("the pass", x.undo(), 3);
        Check.due("HOUR", x.count(14), 0);
        Check.due("TIRED", x.of(0, 2), 0);
        Check.due("the relief", x.undo(), 0);
        Check.due("nobody is UP", x.count(2), -1);
        Check.refused("no more", x, x.undo(), -3);
        x.relieve(0);
        x.relieve(0);
        Check.due("what was REFUSED is not kept", x.count(6), 1);
        x.plate(1, 1);
        x.forget();
        x.image(0);
        x.years(1, 5);
        Check.law(x, "bars");
        x.force(0);
        Check.due("these leave what can be undone", x.count(6), 1);
        Check.due("undo", x.undo(), 0);
        Check.due("it leaves the LAW in FORCE", x.count(13), 0);
        x.pass();
        x.back(0);
        Check.refused("behind back()", x, x.undo(), -3);
    }

    private static void sixteen() {
        StatueRelief x = men();
        x.relieve(0);
        x.sneeze(0);
        for (int i = 0; i < 15; i++) {
            x.pass();
        }
        Check.due("16 are kept", x.count(6), 16);
        for (int i = 0; i < 15; i++) {
            Check.due("undo", x.undo(), 3);
        }
        Check.due("HOUR", x.count(14), 0);
        Check.due("the sneeze", x.undo(), 1);
        Check.due("UP again", x.count(2), 0);
        Check.refused("the relief is not kept", x, x.undo(), -3);
        Check.due("UP still", x.count(2), 0);
    }
}
