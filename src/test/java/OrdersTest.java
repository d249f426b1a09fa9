/** Promises 11 to 13: orders, fault, stopped. */
public final class OrdersTest {
    public static void main(String[] args) {
        faults();
        running();
        words();
        ending();
        undoing();
        Check.finish();
    }

    private static StatueRelief men() {
        StatueRelief x = new StatueRelief();
        x.man(5, 1);
        x.man(4, 6);
        x.man(3, 63);
        return x;
    }

    private static void fault(String text, int place) {
        StatueRelief x = men();
        Check.refused("orders " + text, x, Check.orders(x, text), -6);
        Check.due("fault of " + text, x.fault(), place);
        Check.due("nothing was run", x.count(6) + x.count(14), 0);
        Check.due("the TAPE is empty", x.count(7), 0);
        Check.due("stopped nowhere", x.stopped(), -1);
    }

    private static void good(String text, int run) {
        StatueRelief x = men();
        Check.due("orders " + text, Check.orders(x, text), run);
        Check.due("no fault of " + text, x.fault(), -1);
        Check.due("status", x.status(), 0);
        Check.due("stopped nowhere", x.stopped(), -1);
    }

    private static void faults() {
        fault("", 0);
        fault("  ", 2);
        fault("relieve", 7);
        fault("relieve times 2", 8);
        fault("pass 1", 5);
        fault("pass times", 10);
        fault("pass times 0", 11);
        fault("pass times 21", 11);
        fault("pass times up", 11);
        fault("pass times 1+1", 12);
        fault("pass if 1=1 times 2", 12);
        fault("pass times 2 times 2", 13);
        fault("pass;", 5);
        fault("tires 1", 0);
        fault("bars", 0);
        fault("relieve man", 8);
        fault("relieve other", 8);
        fault("relieve weather", 8);
        fault("relieve tired", 13);
        fault("relieve tired 7", 14);
        fault("relieve tired man", 14);
        fault("relieve tired [1]", 14);
        fault("relieve 1001", 8);
        fault("pass;pass;bars", 10);
        fault("pass" + Check.times(12, ";pass"), 60);
        good("pass if tired 1=1" + Check.times(24, "or tired 1=1"), 0);
        fault("pass if tired 1=1" + Check.times(25, "or tired 1=1"), 8 + 9 + 24 * 12 + 3);
        fault("pass times 2 if " + Check.times(24, "1=1or ") + "1=tired 1+1", 16 + 24 * 6 + 10);
        good("pass times 2 if " + Check.times(24, "1=1or ") + "1=tired 1", 2);
        fault("relieve " + Check.times(9, "["), 16);
        good("pass times 20", 20);
        good("pass times 0020", 20);
        good(" pass ; pass ", 2);
        good("pass" + Check.times(11, ";pass"), 12);
    }

    private static void running() {
        StatueRelief x = men();
        Check.due("each CLAUSE", Check.orders(x, "relieve 0;pass times 3;relieve 1;sneeze 2;pardon 2;pass"), 8);
        Check.due("HOUR", x.count(14), 4);
        Check.due("UP", x.count(2), 1);
        Check.due("HELD", x.count(3), 1);
        Check.due("TIRED 0", x.of(0, 2), 2);
        Check.due("TIRED 1", x.of(1, 2), 1);
        Check.due("can be undone", x.count(6), 8);
        Check.due("its \"if\" each time", Check.orders(x, "pass times 20 if hour < 7"), 3);
        Check.due("HOUR", x.count(14), 7);
        Check.due("none", Check.orders(x, "pass if 1=2;relieve 99 if 1=2;sneeze 1/0 if 1=2"), 0);
        Check.due("status", x.status(), 0);
        Check.due("a BROKEN \"if\" is not so", Check.orders(x, "relieve 99 if 1/0=1;relieve 99 if not 1/0=1"), 0);
        Check.due("the SUM each time", Check.orders(men(), "sneeze done times 3"), 3);
    }

    private static void words() {
        StatueRelief x = men();
        Check.due("hour", Check.orders(x, "pass times 7;pass if hour = 7"), 8);
        Check.due("done is of this TEXT", Check.orders(x, "pass if done = 0;pass if done = 1;pass if done = 1"), 2);
        Check.due("latest ahead of any", Check.orders(x, "pass if latest = 0-1;relieve 0;pass if latest = 0"), 3);
        Check.due("latest is of this TEXT", Check.orders(x, "pass if latest = 0-1;relieve 1;pass if latest = 3"), 3);
        Check.due("latest stays behind others", Check.orders(x, "relieve 2;sneeze 2;pardon 2;pass if latest = 4"), 4);
        Check.due("up", Check.orders(x, "pass if up = 0-1;relieve 0;pass if up = 0"), 3);
        Check.due("held", Check.orders(x, "pass if held = 1;pass if held = 2;pass if held = 2"), 2);
        Check.due("fit", Check.orders(x, "pass if fit = 3;sneeze 1;pass if fit = 2"), 3);
        Check.due("tired", Check.orders(men(), "relieve 1;pass times 3;pass if tired 1 = 3 and tired1=3"), 5);
        Check.due("tired of nobody", Check.orders(men(), "pass if tired 3 = 0-1;pass if tired 6 = 0-1"), 2);
        Check.due("tired of the last", Check.orders(men(), "pass if tired 2 = 0"), 1);
    }

    private static void stops(String text, int clause) {
        StatueRelief x = men();
        x.relieve(0);
        x.pass();
        Check.refused(text, x, Check.orders(x, text), -3);
        Check.due("stopped in " + text, x.stopped(), clause);
        Check.due("fault", x.fault(), -1);
        int[] counts = {3, 3, 0, 1, 0, 0, 2, 0, 0, 0, 1, 0, 0, -1, 1};
        for (int what = 0; what < counts.length; what++) {
            Check.due("count " + what + " behind " + text, x.count(what), counts[what]);
        }
        Check.due("TIRED", x.of(0, 2), 1);
        Check.due("the pass ahead of it", x.undo(), 3);
        Check.due("the relief ahead of it", x.undo(), 0);
        Check.due("no more", x.undo(), -3);
        x.orders();
        Check.due("a TEXT with a FAULT stops nowhere", x.stopped(), -1);
    }

    private static void ending() {
        Check.due("ahead of any", men().stopped(), -1);
        stops("relieve 0", 0);
        stops("relieve 3", 0);
        stops("relieve 0-1", 0);
        stops("relieve 1000*1000*1000", 0);
        stops("pass;relieve 1/0", 1);
        stops("pass;relieve 1000*1000*1000*2", 1);
        stops("relieve 1;pass;sneeze 1;pass;sneeze 1", 4);
        stops("sneeze 0;pass;pardon 1", 2);
        stops("pass times 20;relieve 1;sneeze 2;pardon 1 times 2", 3);
        stops("relieve 1;relieve 2;relieve 1;relieve 1", 3);
        StatueRelief x = men();
        x.terms(0, 998);
        Check.refused("999 can't pass", x, Check.orders(x, "pass times 2"), -3);
        Check.due("HOUR", x.count(14), 998);
        Check.due("one HOUR can", Check.orders(x, "pass"), 1);
        Check.refused("none can", x, x.pass(), -3);
        StatueRelief y = men();
        Check.inForce(y, "bars if man=1;tires 9");
        Check.refused("BARRED", y, Check.orders(y, "pass;relieve 1"), -3);
        Check.due("stopped", y.stopped(), 1);
        Check.due("SHAKING is no refusal", Check.orders(y, "relieve 0;pass;pass"), 3);
        Check.due("a good one stops nowhere", y.stopped(), -1);
        Check.due("CASHIERED", y.of(0, 3), 1);
    }

    private static void undoing() {
        StatueRelief x = men();
        x.relieve(0);
        Check.due("many", Check.orders(x, "pass times 4;relieve 1;pass times 2"), 7);
        Check.due("all can be undone", x.count(6), 8);
        for (int deed : new int[] {3, 3, 0, 3, 3, 3, 3, 0}) {
            Check.due("undo", x.undo(), deed);
        }
        Check.due("HOUR", x.count(14), 0);
        StatueRelief y = men();
        y.relieve(0);
        y.sneeze(1);
        Check.due("more than are kept", Check.orders(y, "pass times 20 if tired 0 < 9"), 20);
        Check.due("16 are kept", y.count(6), 16);
        y = men();
        y.relieve(0);
        y.sneeze(1);
        Check.refused("more than are kept, and then one that can't be", y, Check.orders(y, "pass times 20;sneeze 1"), -3);
        Check.due("all that could be undone can be", y.count(6), 2);
        Check.due("undo", y.undo(), 1);
        Check.due("undo", y.undo(), 0);
        Check.due("UP", y.count(2), -1);
    }
}
