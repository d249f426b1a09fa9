/** Promises 20 to 22: holds, later, moment. */
public final class PaperTest {
    public static void main(String[] args) {
        holds();
        later();
        moment();
        beyond();
        Check.finish();
    }

    private static StatueRelief men() {
        StatueRelief x = new StatueRelief();
        x.man(4, 5);
        x.man(3, 7);
        x.man(9, 48);
        return x;
    }

    private static void holds() {
        StatueRelief x = men();
        Check.due("as long as his HOLD", x.holds(0), 4);
        Check.due("no such MAN", x.holds(3), -1);
        Check.due("-1", x.holds(-1), -1);
        x.relieve(0);
        x.pass();
        x.pass();
        Check.due("who is UP", x.holds(0), 2);
        x.relieve(1);
        Check.due("as TIRED as he is", x.holds(0), 2);
        x.sneeze(0);
        Check.due("CASHIERED aside", x.holds(0), 2);
        Check.inForce(x, "bars;tires held");
        Check.due("BARRED aside, HELD 0 at first: 2, 3, then 5", x.holds(0), 2);
        Check.due("0 + 1 + 2, then 6", x.holds(1), 3);
        x.pass();
        x.pass();
        Check.due("HELD as it is, if he is UP: 1, then 3, then 6", x.holds(1), 1);
        Check.due("HELD 0 for another one: 0, 1, 3, 6, then 10", x.holds(2), 4);
        Check.inForce(x, "tires 0");
        Check.due("99 at most", x.holds(2), 99);
        Check.inForce(x, "tires 9");
        Check.due("as TIRED as his HOLD is no shaking", x.holds(2), 1);
        Check.due("none", x.holds(1), 0);
        Check.due("it is on paper", x.count(14) * 10 + x.count(3), 42);
        StatueRelief y = men();
        y.relieve(1);
        for (int i = 0; i < 4; i++) {
            y.pass();
        }
        Check.inForce(y, "tires 0");
        Check.due("more TIRED than his HOLD he SHAKES, tiring or not", y.holds(1), 0);
    }

    private static void later() {
        StatueRelief x = men();
        x.relieve(1);
        x.pass();
        int[] up = {1, 1, 1, -1, -1};
        int[] tired = {1, 2, 3, 4, 3};
        for (int n = 0; n < 5; n++) {
            Check.due("UP " + n + " on", x.later(n, 0), up[n]);
            Check.due("TIRED " + n + " on", x.later(n, 2), tired[n]);
        }
        Check.due("60 on", x.later(60, 2), 0);
        Check.due("61 on", x.later(61, 2), -1);
        Check.due("-1 on", x.later(-1, 0), -1);
        Check.due("the last MAN", x.later(0, 3), 0);
        Check.due("no such MAN", x.later(0, 4), -1);
        Check.due("what -1", x.later(0, -1), -1);
        Check.due("far beyond", x.later(0, Integer.MAX_VALUE), -1);
        Check.due("it is on paper", x.count(2) * 10 + x.count(14), 11);
        Check.due("nothing of it can be undone", x.count(6), 2);
    }

    private static void moment() {
        StatueRelief x = men();
        Check.due("now", x.moment(0, 0), 0);
        Check.due("NOTICED by none", x.moment(0, 1), 0);
        x.relieve(0);
        Check.due("as soon as he SHAKES", x.moment(1, 0), 5);
        Check.due("NOTICED by none", x.moment(1, 1), 0);
        Check.due("who is UP can't, then he is CASHIERED", x.moment(0, 0), -1);
        Check.due("nor is it NOTICED", x.moment(0, 1), -1);
        Check.due("no such MAN", x.moment(3, 0), -1);
        Check.due("what 2", x.moment(1, 2), -1);
        Check.due("what -1", x.moment(1, -1), -1);
        Check.inForce(x, "tires 0;notices 9-hour if hour < 5;notices 9 if hour > 8");
        Check.due("least NOTICED: 9, 8, 7, 6, 5, 1 at HOUR 5", x.moment(1, 0), 5);
        Check.due("as many as UNLIKE", x.moment(1, 1), 1);
        Check.inForce(x, "tires 0;notices 20-hour");
        Check.due("the last", x.moment(2, 0), 12);
        Check.due("NOTICED", x.moment(2, 1), 8);
        Check.inForce(x, "tires 0;notices 20;bars if hour < 12");
        Check.due("BARRED till then", x.moment(2, 0), 12);
        Check.inForce(x, "tires 0;bars if hour < 13");
        Check.due("BARRED too long", x.moment(2, 0), -1);
        x.sneeze(1);
        x.force(-1);
        Check.due("CASHIERED", x.moment(1, 0), -1);
        Check.due("it is on paper", x.count(14), 0);
        StatueRelief y = men();
        y.relieve(1);
        y.pass();
        y.pass();
        y.pass();
        y.relieve(2);
        Check.due("when the other one SHAKES", y.moment(1, 0), 10);
        Check.inForce(y, "tires 0");
        Check.due("TIRED till he has rested", y.moment(1, 0), 1);
        Check.due("NOTICED", y.moment(1, 1), 5);
    }

    private static void beyond() {
        StatueRelief x = men();
        x.terms(0, 998);
        x.relieve(0);
        Check.due("HOURS go on beyond 999", x.later(5, 1), 5);
        Check.due("nobody is UP then", x.later(5, 0), -1);
        Check.due("one holds beyond 999", x.holds(0), 4);
        Check.due("a MOMENT beyond 999", x.moment(1, 0), 5);
        Check.inForce(x, "tires hour-999");
        Check.due("hour is beyond, too: 0, 0, 1, 2, 3", x.later(5, 1), 6);
        Check.due("HOUR", x.count(14), 998);
    }
}
