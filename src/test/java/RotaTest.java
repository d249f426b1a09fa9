/** Promise 23: rota. */
public final class RotaTest {
    public static void main(String[] args) {
        ordinary();
        edges();
        byLaw();
        keptPlans();
        Check.finish();
    }

    private static void due(StatueRelief x, int n, int eyes, int... row) {
        Check.due("rota(" + n + ", NONE)", x.rota(n, -1), eyes);
        for (int i = 0; i < n; i++) {
            Check.due("rota(" + n + ", " + i + ")", x.rota(n, i), row.length == 0 ? -1 : row[i]);
        }
        Check.due("rota(" + n + ", " + n + ")", x.rota(n, n), -1);
        Check.due("rota(" + n + ", -2)", x.rota(n, -2), -1);
    }

    private static void ordinary() {
        StatueRelief x = new StatueRelief();
        x.man(2, 0);
        x.man(2, 1);
        x.man(2, 7);
        due(x, 1, 0, 0);
        due(x, 2, 0, 0, 0);
        due(x, 3, 1, 0, 0, 1);
        due(x, 4, 1, 0, 0, 1, 1);
        due(x, 5, 2, 0, 0, 1, 1, 0);
        x.relieve(2);
        due(x, 2, 0, 2, 2);
        due(x, 3, 2, 2, 1, 1);
        x.sneeze(1);
        due(x, 3, 3, 2, 0, 0);
        Check.due("it is on paper", x.count(2) * 10 + x.count(14), 20);
    }

    private static void edges() {
        StatueRelief x = new StatueRelief();
        due(x, 1, -1);
        x.man(1, 0);
        due(x, 1, 0, 0);
        due(x, 2, -1);
        Check.due("rota(0, NONE)", x.rota(0, -1), -1);
        Check.due("rota(-1, NONE)", x.rota(-1, -1), -1);
        Check.due("rota(6, NONE)", x.rota(6, -1), -1);
        x.relieve(0);
        x.pass();
        due(x, 1, -1);
        x.man(3, 3);
        due(x, 1, 2, 1);
        due(x, 2, 2, 1, 1);
        x.terms(0, 999);
        due(x, 3, 2, 1, 1, 1);
        x.sneeze(0);
        x.sneeze(1);
        due(x, 1, -1);
    }

    private static void byLaw() {
        StatueRelief x = new StatueRelief();
        x.man(9, 0);
        x.man(9, 0);
        x.man(9, 0);
        Check.inForce(x, "bars if man = 0 and hour < 2;tires 4;tires 9 if man = 1;rests 0;notices man + held * 3");
        // 1 holds for an HOUR, 2 for two, 0 for two from HOUR 2 on; each is NOTICED by his number, and by how long one held.
        due(x, 1, 0, 1);
        due(x, 2, 0, 2, 2);
        due(x, 3, 5, 1, 2, 2);
        due(x, 4, 6, 2, 2, 0, 0);
        due(x, 5, 10, 2, 2, 1, 0, 0);
        StatueRelief y = new StatueRelief();
        y.man(9, 0);
        y.man(9, 63);
        y.relieve(0);
        Check.inForce(y, "tires 9 if man = 0 and hour = 1;tires 0;notices 9-hour*9 if man = 1");
        due(y, 1, 0, 0);
        due(y, 2, 0, 0, 0);
        y.terms(0, 1);
        due(y, 1, 0, 0);
        y.pass();
        due(y, 1, 0, 0);
    }

    /** The same ROTA is not asked for twice, so each change must be seen. */
    private static void keptPlans() {
        StatueRelief x = new StatueRelief();
        x.man(1, 0);
        due(x, 2, -1);
        x.man(1, 3);
        due(x, 2, 2, 0, 1);
        x.relieve(1);
        due(x, 2, 2, 1, 0);
        x.undo();
        due(x, 2, 2, 0, 1);
        x.image(0);
        Check.inForce(x, "notices 5");
        due(x, 2, 5, 0, 1);
        x.force(-1);
        due(x, 2, 2, 0, 1);
        x.sneeze(0);
        due(x, 1, 0, 1);
        x.pardon(0);
        due(x, 1, 0, 0);
        x.relieve(0);
        x.pass();
        due(x, 1, 2, 1);
        x.back(0);
        due(x, 1, 0, 0);
        Check.tape(x, new byte[] {9, 0});
        x.row();
        due(x, 2, 0, 0, 2);
        Check.orders(x, "relieve 1");
        due(x, 2, 2, 0, 2);
    }
}
