/** Promises 38 and 39: count, status. */
public final class CountTest {
    public static void main(String[] args) {
        count();
        refusals();
        status();
        noRefusals();
        Check.finish();
    }

    private static void count() {
        StatueRelief x = new StatueRelief();
        x.man(5, 1);
        x.man(4, 6);
        x.man(3, 7);
        x.terms(0, 100);
        x.terms(1, 5);
        x.terms(2, 6);
        x.terms(3, 7);
        x.sneeze(1);
        x.relieve(2);
        x.pass();
        x.plate(1, 1);
        Check.law(x, "bars");
        Check.law(x, "bars");
        x.force(1);
        x.feed(0, 0, 0, 0, 0);
        int[] counts = {3, 2, 2, 1, 1, 2, 3, 20, 0, 0, 0, 0, 0, 1, 101, 5, 6, 7};
        for (int what = 0; what < counts.length; what++) {
            Check.due("count(" + what + ")", x.count(what), counts[what]);
        }
        Check.due("count(18)", x.count(18), -1);
        Check.due("count(-1)", x.count(-1), -1);
        Check.due("count far beyond", x.count(Integer.MIN_VALUE), -1);
        x.sneeze(2);
        Check.due("nobody is UP", x.count(2), -1);
        Check.due("HELD", x.count(3), 0);
    }

    private static void refusals() {
        StatueRelief x = new StatueRelief();
        x.man(0, 0);
        x.terms(9, 9);
        x.plate(9, 9);
        x.years(-1, 1);
        x.image(2);
        x.back(2);
        Check.due("by -1", x.count(8), 6);
        x.force(3);
        x.relieve(0);
        x.sneeze(0);
        x.pardon(0);
        x.back(0);
        Check.due("by -2", x.count(9), 5);
        x.undo();
        x.years(1, 1);
        x.man(1, 1);
        x.pardon(0);
        x.relieve(0);
        x.relieve(0);
        x.sneeze(0);
        x.sneeze(0);
        Check.orders(x, "sneeze 0");
        x.terms(0, 999);
        x.pass();
        Check.due("by -3", x.count(10), 7);
        for (int i = 0; i < 7; i++) {
            x.man(1, 1);
            x.plate(1, 1);
            Check.law(x, "bars");
        }
        Check.due("by -5", x.count(11), 3);
        x.row();
        x.orders();
        x.back(1);
        Check.due("by -6", x.count(12), 2);
        Check.due("by -2, one more", x.count(9), 6);
        Check.due("by -1 still", x.count(8), 6);
    }

    private static void status() {
        StatueRelief x = new StatueRelief();
        Check.due("ahead of any", x.status(), 0);
        x.back(0);
        Check.due("back", x.status(), -2);
        x.of(9, 9);
        x.two(0, 0, 0);
        x.feed(0, 0, 0, 0, 0);
        x.end(0);
        x.pigeons();
        x.fault();
        x.stopped();
        x.holds(0);
        x.later(0, 0);
        x.moment(0, 0);
        x.rota(1, 1);
        x.order(1);
        x.chain(0, 0, 0);
        x.groups(1, -1);
        x.likest(0);
        x.forget();
        x.canBe();
        x.take(0);
        x.few(1, 1);
        x.compare(0, 0, 0);
        x.drawn(0, 0);
        x.count(1);
        Check.due("these leave it", x.status(), -2);
        due(x, "man", x.man(1, 1) + x.status(), 0);
        due(x, "terms", x.terms(3, 2) + x.status(), 2);
        Check.tape(x, new byte[] {1, 1});
        due(x, "row", x.row() + x.status(), 1);
        due(x, "law", Check.law(x, "bars if hour > 500") + x.status(), 0);
        Check.due("orders, REFUSED", Check.orders(x, "pass times 0") + x.status(), -12);
        due(x, "orders", Check.orders(x, "pass") + x.status(), 1);
        due(x, "force", x.force(0) + x.status(), -1);
        due(x, "relieve", x.relieve(0) + x.status(), 0);
        due(x, "sneeze", x.sneeze(0) + x.status(), 1);
        due(x, "pardon", x.pardon(0) + x.status(), 2);
        due(x, "pass", x.pass() + x.status(), 0);
        due(x, "undo", x.undo() + x.status(), 3);
        due(x, "plate", x.plate(0, 0) + x.status(), 1);
        due(x, "years", Math.min(0, x.years(0, 1)) + x.status(), 0);
        due(x, "image", x.image(0) + x.status(), 0);
        due(x, "back", x.back(0) + x.status(), 0);
    }

    /** A call that was not REFUSED, each behind one that was. */
    private static void due(StatueRelief x, String call, int got, int want) {
        Check.due(call + " and its status", got, want);
        x.relieve(99);
        Check.due("a REFUSED one between", x.status(), -2);
    }

    private static void noRefusals() {
        StatueRelief x = new StatueRelief();
        x.end(9);
        x.of(0, 0);
        x.two(0, 1, 0);
        x.later(99, 0);
        x.few(0, 0);
        x.take(0);
        x.drawn(0, 0);
        x.compare(9, 0, 1);
        x.force(-1);
        for (int what = 8; what <= 12; what++) {
            Check.due("NONE is no refusal", x.count(what), 0);
        }
    }
}
