import java.util.Map;
import java.util.function.Consumer;
import java.util.function.Supplier;
import java.util.function.ToLongFunction;

/**
 * "REFUSED by ..": each refusal of each call answers as told, is what status() tells then, is counted once, and changes
 * nothing else but what the document says it changes. A call that answers NONE changes nothing at all.
 */
public final class RefusedTest {
    private static final int LEAST = Integer.MIN_VALUE;
    private static final int MOST = Integer.MAX_VALUE;
    private static final int[] COUNTED = {-1, -2, -3, -5, -6};

    public static void main(String[] args) {
        byMinus1();
        byMinus2();
        byMinus3();
        byMinus5();
        textsByMinus3();
        textsByMinus6();
        inTheirOrder();
        noneOfBounds();
        noneOfStanding();
        asking();
        whatIsLeft();
        Check.finish();
    }

    /** MEN, LAWS, PLATES, a FAULT, ORDERS that stopped, PIGEONS, YEARS, IMAGES, a past, bytes on the TAPE. */
    private static StatueRelief busy() {
        StatueRelief x = new StatueRelief();
        x.image(1);
        x.man(5, 1);
        x.man(4, 6);
        x.man(3, 63);
        x.terms(0, 7);
        x.terms(1, 3);
        x.terms(2, 5);
        x.terms(3, 4);
        Check.inForce(x, "notices unlike+20;bars if man=2;rests 0");
        Check.law(x, "notices 30+held;tires 2");
        x.plate(0, 1);
        x.plate(3, 0);
        x.relieve(0);
        x.pass();
        x.image(0);
        Check.tape(x, new byte[] {9, 9, 0});
        x.row();
        Check.orders(x, "pass;sneeze 9");
        Check.law(x, "bars bars");
        x.years(11, 7);
        x.sneeze(3);
        x.relieve(1);
        x.pass();
        x.pass();
        Check.tape(x, new byte[] {8, 7, 0, 6, 5});
        return x;
    }

    private static StatueRelief full() {
        StatueRelief x = busy();
        for (int i = 0; i < 4; i++) {
            x.man(9, i);
            x.plate(i, 1);
        }
        for (int i = 0; i < 4; i++) {
            Check.law(x, "notices 50+man");
        }
        x.relieve(4);
        Check.tape(x, new byte[] {8, 7, 0, 6, 5});
        return x;
    }

    private static StatueRelief lastHour() {
        StatueRelief x = busy();
        x.terms(0, 998);
        x.sneeze(0);
        x.pass();
        return x;
    }

    private static StatueRelief nobody() {
        StatueRelief x = new StatueRelief();
        x.image(1);
        x.pass();
        Check.tape(x, new byte[] {8, 7, 0, 6, 5});
        return x;
    }

    private static StatueRelief withoutPast() {
        StatueRelief x = busy();
        x.terms(3, 4);
        return x;
    }

    private static void nothing(StatueRelief x) {
    }

    private static void refused(String what, Supplier<StatueRelief> made, ToLongFunction<StatueRelief> call, int by) {
        refused(what, made, call, by, RefusedTest::nothing, Map.of());
    }

    /** What a refusal may change comes by other calls on a twin (changes), or is told (answers). */
    private static void refused(String what, Supplier<StatueRelief> made, ToLongFunction<StatueRelief> call, int by,
            Consumer<StatueRelief> changes, Map<String, Long> answers) {
        StatueRelief x = made.get();
        Check.due(what, call.applyAsLong(x), by);
        StatueRelief twin = made.get();
        changes.accept(twin);
        Map<String, Long> want = Seen.of(twin);
        want.put("status", (long) by);
        for (int i = 0; i < COUNTED.length; i++) {
            want.merge("count " + (8 + i), COUNTED[i] == by ? 1L : 0L, Long::sum);
        }
        want.putAll(answers);
        Seen.same(what, Seen.of(x), want);
    }

    private static void leaves(String what, Supplier<StatueRelief> made, ToLongFunction<StatueRelief> call, long answer) {
        StatueRelief x = made.get();
        Check.due(what, call.applyAsLong(x), answer);
        Seen.same(what, Seen.of(x), Seen.of(made.get()));
    }

    /** "-1 a number that can't be". */
    private static void byMinus1() {
        int[][] men = {{0, 5}, {10, 5}, {5, -1}, {5, 64}, {LEAST, 5}, {5, MOST}};
        for (int[] m : men) {
            refused("man(" + m[0] + ", " + m[1] + ")", RefusedTest::busy, x -> x.man(m[0], m[1]), -1);
        }
        int[][] terms = {{-1, 0}, {4, 0}, {0, -1}, {0, 1000}, {1, -1}, {1, 11}, {2, -1}, {2, 10}, {3, -1}, {3, 100}};
        for (int[] t : terms) {
            refused("terms(" + t[0] + ", " + t[1] + ")", RefusedTest::busy, x -> x.terms(t[0], t[1]), -1);
        }
        int[][] plates = {{-1, 0}, {6, 0}, {0, -1}, {0, 2}};
        for (int[] p : plates) {
            refused("plate(" + p[0] + ", " + p[1] + ")", RefusedTest::busy, x -> x.plate(p[0], p[1]), -1);
        }
        int[][] years = {{-1, 5}, {1_000_001, 5}, {5, 0}, {5, 61}};
        for (int[] y : years) {
            refused("years(" + y[0] + ", " + y[1] + ")", RefusedTest::busy, x -> x.years(y[0], y[1]), -1);
        }
        for (int k : new int[] {-1, 2, LEAST, MOST}) {
            refused("image(" + k + ")", RefusedTest::busy, x -> x.image(k), -1);
            refused("back(" + k + ")", RefusedTest::busy, x -> x.back(k), -1);
        }
    }

    /** "-2 there is no such MAN, LAW, IMAGE". */
    private static void byMinus2() {
        for (int man : new int[] {-1, 4, LEAST, MOST}) {
            refused("relieve(" + man + ")", RefusedTest::busy, x -> x.relieve(man), -2);
            refused("sneeze(" + man + ")", RefusedTest::busy, x -> x.sneeze(man), -2);
            refused("pardon(" + man + ")", RefusedTest::busy, x -> x.pardon(man), -2);
        }
        refused("relieve(0) of nobody", RefusedTest::nobody, x -> x.relieve(0), -2);
        refused("sneeze(0) of nobody", RefusedTest::nobody, x -> x.sneeze(0), -2);
        refused("pardon(0) of nobody", RefusedTest::nobody, x -> x.pardon(0), -2);
        for (int law : new int[] {-2, 2, LEAST, MOST}) {
            refused("force(" + law + ")", RefusedTest::busy, x -> x.force(law), -2);
        }
        refused("force(0) of none", RefusedTest::nobody, x -> x.force(0), -2);
        refused("back(0), not kept", RefusedTest::nobody, x -> x.back(0), -2);
    }

    /** "-3 it can't be by what stands". */
    private static void byMinus3() {
        refused("relieve: UP", RefusedTest::busy, x -> x.relieve(1), -3);
        refused("relieve: CASHIERED", RefusedTest::busy, x -> x.relieve(3), -3);
        refused("relieve: BARRED", RefusedTest::busy, x -> x.relieve(2), -3);
        refused("relieve: as TIRED as his HOLD", RefusedTest::tiredOut, x -> x.relieve(1), -3);
        refused("sneeze: CASHIERED", RefusedTest::busy, x -> x.sneeze(3), -3);
        refused("pardon: not CASHIERED", RefusedTest::busy, x -> x.pardon(0), -3);
        refused("pardon: who is UP", RefusedTest::busy, x -> x.pardon(1), -3);
        refused("pass: HOUR 999", RefusedTest::lastHour, StatueRelief::pass, -3);
        refused("undo: none", RefusedTest::withoutPast, StatueRelief::undo, -3);
        refused("undo: a new one", StatueRelief::new, StatueRelief::undo, -3);
        refused("years: no MEN", RefusedTest::nobody, x -> x.years(5, 1), -3);
    }

    /** MAN 1 is as TIRED as his HOLD, and 0 is UP. */
    private static StatueRelief tiredOut() {
        StatueRelief x = busy();
        x.pass();
        x.pass();
        x.relieve(0);
        return x;
    }

    /** "-5 no room". */
    private static void byMinus5() {
        refused("an eighth MAN", RefusedTest::full, x -> x.man(5, 5), -5);
        refused("a seventh PLATE", RefusedTest::full, x -> x.plate(5, 1), -5);
        for (String text : new String[] {"bars", "bars bars", " ", ""}) {
            refused("a seventh LAW: " + text, RefusedTest::full, x -> Check.law(x, text), -5, x -> x.end(0), Map.of());
        }
    }

    /** orders: "the TAPE is empty then .. -3 one can't be"; FAULT and where it stopped are those of the latest. */
    private static void textsByMinus3() {
        String[] texts = {"sneeze 3", "pass times 2;relieve 0;sneeze 1;pardon 3;relieve 9", "pass;pass;pass;relieve 1/0",
            "pass times 20;pardon 0 if 1=1", "relieve 0;relieve 2"};
        long[] stops = {0, 4, 3, 1, 1};
        for (int i = 0; i < texts.length; i++) {
            String text = texts[i];
            refused("orders " + text, RefusedTest::busy, x -> Check.orders(x, text), -3, x -> x.end(0),
                    Map.of("fault", -1L, "stopped", stops[i]));
        }
        refused("orders at HOUR 999", RefusedTest::lastHour, x -> Check.orders(x, "pardon 0;pass"), -3, x -> x.end(0),
                Map.of("fault", -1L, "stopped", 1L));
        refused("orders with no room for what is undone", RefusedTest::busy,
                x -> Check.orders(x, "pass times 20;relieve 9"), -3, x -> x.end(0), Map.of("fault", -1L, "stopped", 1L));
    }

    /** "-6 a TEXT, a ROW that can't be". */
    private static void textsByMinus6() {
        refused("row: an empty TAPE", RefusedTest::busy, x -> x.end(0) + x.row(), -6, x -> x.end(0), Map.of());
        String[] laws = {"", "   ", "tires", "bars if 1=1;bars 1", "pass"};
        long[] faults = {0, 3, 5, 17, 0};
        for (int i = 0; i < laws.length; i++) {
            String text = laws[i];
            refused("law " + text, RefusedTest::busy, x -> Check.law(x, text), -6, x -> x.end(0),
                    Map.of("fault", faults[i]));
        }
        String[] orders = {"", "   ", "sneeze", "pass;pass 1", "bars"};
        long[] places = {0, 3, 6, 10, 0};
        for (int i = 0; i < orders.length; i++) {
            String text = orders[i];
            refused("orders " + text, RefusedTest::busy, x -> Check.orders(x, text), -6, x -> x.end(0),
                    Map.of("fault", places[i], "stopped", -1L));
        }
    }

    /** "The first of these in that order." */
    private static void inTheirOrder() {
        refused("man: -1 ahead of -5", RefusedTest::full, x -> x.man(10, 5), -1);
        refused("man: -1 ahead of -5", RefusedTest::full, x -> x.man(5, 64), -1);
        refused("plate: -1 ahead of -5", RefusedTest::full, x -> x.plate(6, 1), -1);
        refused("plate: -1 ahead of -5", RefusedTest::full, x -> x.plate(5, 2), -1);
        refused("years: -1 ahead of -3", RefusedTest::nobody, x -> x.years(-1, 5), -1);
        refused("years: -1 ahead of -3", RefusedTest::nobody, x -> x.years(5, 0), -1);
        refused("back: -1 ahead of -2", RefusedTest::nobody, x -> x.back(2), -1);
        refused("law: -5 ahead of -6", RefusedTest::full, x -> Check.law(x, ""), -5, x -> x.end(0), Map.of());
    }

    /** Numbers beyond the bounds of calls that are not REFUSED: NONE. */
    private static void noneOfBounds() {
        for (int n : new int[] {-1, 6, LEAST, MOST}) {
            leaves("end", RefusedTest::busy, x -> x.end(n), -1);
        }
        leaves("count(-1)", RefusedTest::busy, x -> x.count(-1), -1);
        leaves("count(18)", RefusedTest::busy, x -> x.count(18), -1);
        leaves("few(0, 1)", RefusedTest::busy, x -> x.few(0, 1), -1);
        leaves("few(21, 1)", RefusedTest::busy, x -> x.few(21, 1), -1);
        leaves("few(1, -1)", RefusedTest::busy, x -> x.few(1, -1), -1);
        leaves("few(1, 100)", RefusedTest::busy, x -> x.few(1, 100), -1);
        leaves("groups(7, 0)", RefusedTest::busy, x -> x.groups(7, 0), -1);
        leaves("groups(-1, -1)", RefusedTest::busy, x -> x.groups(-1, -1), -1);
        leaves("rota(0, -1)", RefusedTest::busy, x -> x.rota(0, -1), -1);
        leaves("rota(6, -1)", RefusedTest::busy, x -> x.rota(6, -1), -1);
        leaves("rota(2, 2)", RefusedTest::busy, x -> x.rota(2, 2), -1);
        leaves("later(61, 0)", RefusedTest::busy, x -> x.later(61, 0), -1);
        leaves("later(-1, 0)", RefusedTest::busy, x -> x.later(-1, 0), -1);
        leaves("take(2)", RefusedTest::busy, x -> x.take(2), -1);
        leaves("order(-2)", RefusedTest::busy, x -> x.order(-2), -1);
        leaves("feed, no room", RefusedTest::overfed, x -> x.feed(1, 2, 3, 4, 5), -1);
    }

    private static StatueRelief overfed() {
        StatueRelief x = busy();
        for (int i = 0; i < 19; i++) {
            x.feed(0x03040506, i, i, i, i);
        }
        return x;
    }

    /** MEN, LAWS that are not there, of calls that are not REFUSED: NONE. */
    private static void noneOfStanding() {
        leaves("of(4, 0)", RefusedTest::busy, x -> x.of(4, 0), -1);
        leaves("of(0, 9)", RefusedTest::busy, x -> x.of(0, 9), -1);
        leaves("two(1, 1, 1)", RefusedTest::busy, x -> x.two(1, 1, 1), -1);
        leaves("two(1, 4, 0)", RefusedTest::busy, x -> x.two(1, 4, 0), -1);
        leaves("holds(4)", RefusedTest::busy, x -> x.holds(4), -1);
        leaves("later(0, 5)", RefusedTest::busy, x -> x.later(0, 5), -1);
        leaves("moment(4, 0)", RefusedTest::busy, x -> x.moment(4, 0), -1);
        leaves("moment(3, 0)", RefusedTest::busy, x -> x.moment(3, 0), -1);
        leaves("order(3)", RefusedTest::busy, x -> x.order(3), -1);
        leaves("chain(0, 4, -1)", RefusedTest::busy, x -> x.chain(0, 4, -1), -1);
        leaves("groups(1, 4)", RefusedTest::busy, x -> x.groups(1, 4), -1);
        leaves("likest(4)", RefusedTest::busy, x -> x.likest(4), -1);
        leaves("compare(2, 0, 1)", RefusedTest::busy, x -> x.compare(2, 0, 1), -1);
        leaves("compare(0, 1, 1)", RefusedTest::busy, x -> x.compare(0, 1, 1), -1);
        leaves("drawn(4, 0)", RefusedTest::busy, x -> x.drawn(4, 0), -1);
        leaves("drawn(0, 3)", RefusedTest::busy, x -> x.drawn(0, 3), -1);
    }

    /** What is asked changes nothing: 0 is TIRED 1 of HOLD 5, 1 UP and TIRED 2 of HOLD 4, 2 BARRED, 3 CASHIERED. */
    private static void asking() {
        leaves("of TIRED", RefusedTest::busy, x -> x.of(0, 2), 1);
        leaves("of TIRES", RefusedTest::busy, x -> x.of(1, 5), 1);
        leaves("two", RefusedTest::busy, x -> x.two(0, 1, 1), 23);
        leaves("holds", RefusedTest::busy, x -> x.holds(0), 4);
        leaves("holds of who is UP", RefusedTest::busy, x -> x.holds(1), 2);
        leaves("later", RefusedTest::busy, x -> x.later(60, 0), -1);
        leaves("later, TIRED", RefusedTest::busy, x -> x.later(60, 2), 5);
        leaves("moment", RefusedTest::busy, x -> x.moment(0, 0), 3);
        leaves("moment, EYES", RefusedTest::busy, x -> x.moment(0, 1), 0);
        leaves("rota", RefusedTest::busy, x -> x.rota(5, -1), 23);
        leaves("order", RefusedTest::busy, x -> x.order(-1), 48);
        leaves("chain", RefusedTest::busy, x -> x.chain(0, 1, -1), -1);
        leaves("groups", RefusedTest::busy, x -> x.groups(2, -1), 3);
        leaves("likest", RefusedTest::busy, x -> x.likest(0), 3);
        leaves("canBe", RefusedTest::busy, StatueRelief::canBe, 1);
        leaves("take", RefusedTest::busy, x -> x.take(1), 1);
        leaves("few", RefusedTest::busy, x -> x.few(1, 1), 700_000_000_000L);
        leaves("compare", RefusedTest::busy, x -> x.compare(1, 0, 1), 32);
        leaves("drawn", RefusedTest::busy, x -> x.drawn(0, 3), -1);
        leaves("count", RefusedTest::busy, x -> x.count(3), 2);
        leaves("status", RefusedTest::busy, StatueRelief::status, 0);
        leaves("fault", RefusedTest::busy, StatueRelief::fault, 5);
        leaves("stopped", RefusedTest::busy, StatueRelief::stopped, 1);
        leaves("pigeons", RefusedTest::busy, StatueRelief::pigeons, 1);
        leaves("end of all", RefusedTest::busy, x -> x.end(5), 5);
    }

    /** law, force, plate: "It leaves what can be undone"; image, years, forget, too: no word of them ends it. */
    private static void whatIsLeft() {
        leavesThePast("law", x -> Check.law(x, "bars"), 2);
        leavesThePast("force", x -> x.force(1), 0);
        leavesThePast("plate", x -> x.plate(5, 0), 3);
        leavesThePast("forget", StatueRelief::forget, 2);
        leavesThePast("image", x -> x.image(0), 0);
        leavesThePast("years", x -> Math.min(0, x.years(5, 9)), 0);
        leavesThePast("orders of which none is run", x -> Check.orders(x, "pass if 1=2"), 0);
    }

    private static void leavesThePast(String what, ToLongFunction<StatueRelief> call, long answer) {
        StatueRelief x = busy();
        Check.due(what, call.applyAsLong(x), answer);
        Check.due(what + ", status", x.status(), 0);
        int[] deeds = {3, 3, 0, 1};
        int[] up = {1, 1, 0, 0};
        int[] hours = {9, 8, 8, 8};
        for (int i = 0; i < deeds.length; i++) {
            Check.due(what + ", what can be undone", x.count(6), 4 - i);
            Check.due(what + ", undo", x.undo(), deeds[i]);
            Check.due(what + ", UP", x.count(2), up[i]);
            Check.due(what + ", HOUR", x.count(14), hours[i]);
        }
        Check.due(what + ", CASHIERED", x.of(3, 3), 0);
        Check.due(what + ", no more", x.undo(), -3);
    }
}
