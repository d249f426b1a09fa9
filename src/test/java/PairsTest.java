/** Promises 24 and 25: order, chain. */
public final class PairsTest {
    public static void main(String[] args) {
        order();
        orderByLaw();
        chain();
        chainByLaw();
        Check.finish();
    }

    private static void dueOrder(StatueRelief x, int eyes, int... row) {
        Check.due("order(NONE)", x.order(-1), eyes);
        for (int i = 0; i < 8; i++) {
            Check.due("order(" + i + ")", x.order(i), i < row.length ? row[i] : -1);
        }
        Check.due("order(-2)", x.order(-2), -1);
    }

    private static void order() {
        StatueRelief x = new StatueRelief();
        dueOrder(x, 0);
        x.man(1, 7);
        dueOrder(x, 0, 0);
        x.man(1, 0);
        x.man(1, 3);
        x.man(1, 1);
        dueOrder(x, 3, 0, 2, 3, 1);
        x.relieve(3);
        x.pass();
        dueOrder(x, 4, 3, 1, 2, 0);
        x.sneeze(2);
        dueOrder(x, 4, 3, 1, 0);
        x.sneeze(3);
        dueOrder(x, 3, 0, 1);
        x.sneeze(0);
        x.sneeze(1);
        dueOrder(x, 0);
        for (int m = 0; m < 4; m++) {
            x.pardon(m);
        }
        x.man(1, 63);
        x.man(1, 15);
        x.man(1, 31);
        dueOrder(x, 6, 1, 3, 2, 0, 5, 6, 4);
    }

    private static void orderByLaw() {
        StatueRelief x = new StatueRelief();
        for (int i = 0; i < 4; i++) {
            x.man(1, 0);
        }
        dueOrder(x, 0, 0, 1, 2, 3);
        Check.inForce(x, "bars;notices 9;notices 1 if man + 1 = other");
        dueOrder(x, 3, 3, 2, 1, 0);
        x.relieve(0);
        Check.due("BARRED", x.count(2), -1);
        x.force(-1);
        x.relieve(1);
        x.pass();
        x.force(0);
        dueOrder(x, 11, 1, 0, 3, 2);
        Check.inForce(x, "notices 7;notices tired*50+held+other if man < other");
        dueOrder(x, 2 + 7 + 4, 1, 0, 3, 2);
    }

    private static void dueChain(StatueRelief x, int from, int to, int... row) {
        Check.due("chain(" + from + ", " + to + ", NONE)", x.chain(from, to, -1), row.length);
        for (int i = 0; i < 8; i++) {
            Check.due("chain(" + from + ", " + to + ", " + i + ")", x.chain(from, to, i), i < row.length ? row[i] : -1);
        }
        Check.due("chain(" + from + ", " + to + ", -2)", x.chain(from, to, -2), -1);
    }

    private static void noChain(StatueRelief x, int from, int to) {
        for (int i = -2; i < 3; i++) {
            Check.due("chain(" + from + ", " + to + ", " + i + ")", x.chain(from, to, i), -1);
        }
    }

    private static void chain() {
        StatueRelief x = new StatueRelief();
        noChain(x, 0, 0);
        x.man(1, 0);
        dueChain(x, 0, 0);
        x.man(1, 15);
        noChain(x, 0, 1);
        x.man(1, 5);
        dueChain(x, 0, 1, 2, 1);
        x.man(1, 3);
        dueChain(x, 0, 1, 2, 1);
        dueChain(x, 1, 0, 2, 0);
        x.man(1, 63);
        dueChain(x, 0, 4, 2, 1, 4);
        x.sneeze(2);
        dueChain(x, 0, 4, 2, 1, 4);
        x.terms(3, 1);
        noChain(x, 0, 4);
        dueChain(x, 0, 0);
        x.terms(3, 6);
        dueChain(x, 0, 4, 4);
        x.terms(3, 4);
        dueChain(x, 0, 4, 1, 4);
        noChain(x, 0, 5);
        noChain(x, 5, 0);
        noChain(x, 5, 5);
        noChain(x, -1, 0);
        noChain(x, 0, -1);
    }

    private static void chainByLaw() {
        StatueRelief x = new StatueRelief();
        for (int i = 0; i < 7; i++) {
            x.man(1, 0);
        }
        Check.inForce(x, "bars;notices 3;notices 2 if man = other + 1");
        dueChain(x, 0, 6, 1, 2, 3, 4, 5, 6);
        noChain(x, 6, 0);
        x.terms(3, 3);
        dueChain(x, 6, 0, 0);
        x.terms(3, 2);
        noChain(x, 6, 0);
        Check.inForce(x, "notices 9;notices 0 if (other=0 and man>3) or (other=5 and man=2) or (other=4 and man=3)"
                + " or (man=1 and other>1 and other<4)");
        dueChain(x, 0, 1, 4, 3, 1);
        dueChain(x, 0, 2, 5, 2);
    }
}
