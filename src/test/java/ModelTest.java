import java.nio.charset.StandardCharsets;
import java.util.Random;

/** Many runs of calls by draws (the same ones each time), each answer held against the Model's. */
public final class ModelTest {
    private static final int RUNS = Integer.getInteger("runs", 400);
    private static final int CALLS = 300;
    private static final int SEED = Integer.getInteger("seed", 1);

    private final Random draw;
    private final StatueRelief x = new StatueRelief();
    private final Model y = new Model();
    private final StringBuilder story = new StringBuilder();
    private boolean wrong;

    private ModelTest(long seed) {
        draw = new Random(seed);
    }

    public static void main(String[] args) {
        for (int run = 0; run < RUNS; run++) {
            ModelTest t = new ModelTest(SEED * 100_000L + run);
            t.men();
            for (int i = 0; i < CALLS && !t.wrong; i++) {
                t.call();
                t.look();
            }
            Check.so("run " + run + " is as the model's", !t.wrong);
            if (t.wrong) {
                System.out.println(t.story);
                break;
            }
        }
        Check.finish();
    }

    private void men() {
        int n = draw.nextInt(6) == 0 ? draw.nextInt(3) : 2 + draw.nextInt(4);
        for (int i = 0; i < n; i++) {
            int hold = 1 + draw.nextInt(9);
            int look = draw.nextInt(64);
            same("man(" + hold + ", " + look + ")", x.man(hold, look), y.man(hold, look));
        }
    }

    private void same(String call, long got, long want) {
        story.append(call).append(" -> ").append(want).append('\n');
        if (got != want) {
            wrong = true;
            story.append("  answered ").append(got).append('\n');
        }
    }

    private void look() {
        for (int what = -1; what <= 18; what++) {
            if (x.count(what) != y.count(what)) {
                same("count(" + what + ")", x.count(what), y.count(what));
            }
        }
        if (x.status() != y.status) {
            same("status()", x.status(), y.status);
        }
        for (int m = 0; m < 7; m++) {
            for (int what = 0; what < 9; what++) {
                if (x.of(m, what) != y.of(m, what)) {
                    same("of(" + m + ", " + what + ")", x.of(m, what), y.of(m, what));
                }
            }
        }
    }

    /** A number of a MAN most often, now and then one beyond. */
    private int m() {
        int men = y.w.men.size();
        return draw.nextInt(12) == 0 || men == 0 ? draw.nextInt(11) - 2 : draw.nextInt(men);
    }

    private void call() {
        int kind = draw.nextInt(60);
        if (kind < 26) {
            act(kind);
        } else if (kind < 30) {
            text(false);
        } else if (kind < 34) {
            text(true);
        } else if (kind < 46) {
            ask(kind - 34);
        } else {
            rest(kind - 46);
        }
    }

    private void act(int kind) {
        int man = m();
        if (kind < 8) {
            same("relieve(" + man + ")", x.relieve(man), y.acted(0, man));
        } else if (kind < 10) {
            same("sneeze(" + man + ")", x.sneeze(man), y.acted(1, man));
        } else if (kind < 14) {
            same("pardon(" + man + ")", x.pardon(man), y.acted(2, man));
        } else if (kind < 23) {
            same("pass()", x.pass(), y.acted(3, 0));
        } else {
            same("undo()", x.undo(), y.undo());
        }
    }

    private void text(boolean orders) {
        if (draw.nextInt(3) == 0) {
            int law = draw.nextInt(y.w.laws.size() + 2) - 1;
            same("force(" + law + ")", x.force(law), y.force(law));
            return;
        }
        String text = Texts.of(draw, orders);
        story.append(text).append('\n');
        put(text.getBytes(StandardCharsets.ISO_8859_1));
        if (orders) {
            same("orders()", x.orders(), y.orders());
            same("stopped()", x.stopped(), y.stopped);
        } else {
            same("law()", x.law(), y.law());
            int law = y.w.laws.size() - 1;
            if (y.status == 0 && draw.nextInt(4) > 0) {
                same("force(" + law + ")", x.force(law), y.force(law));
            }
        }
        same("fault()", x.fault(), y.fault);
    }

    private void put(byte[] bytes) {
        Check.tape(x, bytes);
        y.tape.setLength(0);
        for (byte b : bytes) {
            y.tape.append((char) (b & 255));
        }
    }

    private void ask(int kind) {
        int man = m();
        int other = m();
        switch (kind) {
            case 0: same("holds(" + man + ")", x.holds(man), y.holds(man)); break;
            case 1: {
                int n = draw.nextInt(64) - 1;
                for (int what = -1; what < 9; what++) {
                    same("later(" + n + ", " + what + ")", x.later(n, what), y.later(n, what));
                }
                break;
            }
            case 2: {
                for (int what = -1; what < 3; what++) {
                    same("moment(" + man + ", " + what + ")", x.moment(man, what), y.moment(man, what));
                }
                break;
            }
            case 3: case 4: rota(); break;
            case 5:
                for (int i = -2; i < 8; i++) {
                    same("order(" + i + ")", x.order(i), y.order(i));
                }
                break;
            case 6:
                for (int i = -2; i < 7; i++) {
                    same("chain(" + man + ", " + other + ", " + i + ")", x.chain(man, other, i), y.chain(man, other, i));
                }
                break;
            case 7: {
                int h = draw.nextInt(9) - 1;
                same("groups(" + h + ", " + man + ")", x.groups(h, man), y.groups(h, man));
                same("groups(" + h + ", -1)", x.groups(h, -1), y.groups(h, -1));
                break;
            }
            case 8: same("likest(" + man + ")", x.likest(man), y.likest(man)); break;
            case 9: {
                int k = draw.nextInt(23) - 1;
                int n = draw.nextInt(103) - 2;
                same("few(" + k + ", " + n + ")", x.few(k, n), y.few(k, n));
                break;
            }
            case 10: {
                int law = draw.nextInt(9) - 2;
                same("compare(" + law + ", " + man + ", " + other + ")", x.compare(law, man, other),
                        y.compare(law, man, other));
                break;
            }
            default:
                for (int what = -1; what < 3; what++) {
                    same("two(" + man + ", " + other + ", " + what + ")", x.two(man, other, what), y.two(man, other, what));
                }
        }
    }

    private void rota() {
        int n = draw.nextInt(y.w.men.size() > 5 ? 4 : 6);
        same("rota(" + n + ", -2)", x.rota(n, -2), y.rota(n, -2));
        for (int i = -1; i <= n; i++) {
            same("rota(" + n + ", " + i + ")", x.rota(n, i), y.rota(n, i));
        }
    }

    private void rest(int kind) {
        switch (kind) {
            case 0: case 1: {
                int hold = draw.nextInt(11);
                int look = draw.nextInt(66) - 1;
                if (y.w.men.size() < 5 || draw.nextInt(6) == 0) {
                    same("man(" + hold + ", " + look + ")", x.man(hold, look), y.man(hold, look));
                }
                break;
            }
            case 2: case 3: {
                int what = draw.nextInt(6) - 1;
                int value = draw.nextInt(3) == 0 ? 990 + draw.nextInt(12) : draw.nextInt(12) - 1;
                same("terms(" + what + ", " + value + ")", x.terms(what, value), y.terms(what, value));
                break;
            }
            case 4: {
                int[] n = draw.ints(5).toArray();
                same("feed(..)", x.feed(n[0], n[1], n[2], n[3], n[4]), y.feed(n[0], n[1], n[2], n[3], n[4]));
                int to = draw.nextInt(25) - 1;
                same("end(" + to + ")", x.end(to), y.end(to));
                break;
            }
            case 5: row(); break;
            case 6: case 7: {
                int f = draw.nextInt(8) - 1;
                int is = draw.nextInt(12) == 0 ? 2 : draw.nextInt(2);
                same("plate(" + f + ", " + is + ")", x.plate(f, is), y.plate(f, is));
                plates();
                break;
            }
            case 8:
                same("forget()", x.forget(), y.forget());
                plates();
                break;
            case 9: case 10: years(); break;
            case 11: {
                int k = draw.nextInt(12) == 0 ? draw.nextInt(5) - 1 : draw.nextInt(2);
                same("image(" + k + ")", x.image(k), y.image(k));
                break;
            }
            default: {
                int k = draw.nextInt(12) == 0 ? draw.nextInt(5) - 1 : draw.nextInt(2);
                same("back(" + k + ")", x.back(k), y.back(k));
            }
        }
    }

    private void row() {
        byte[] bytes = new byte[draw.nextInt(6)];
        for (int i = 0; i < bytes.length; i++) {
            bytes[i] = (byte) (i % 2 == 0 ? draw.nextInt(11) : draw.nextInt(70));
        }
        put(bytes);
        same("row()", x.row(), y.row());
        same("pigeons()", x.pigeons(), y.pigeons);
    }

    private void plates() {
        same("canBe()", x.canBe(), y.canBe());
        for (int what = -1; what < 3; what++) {
            same("take(" + what + ")", x.take(what), y.take(what));
        }
    }

    private void years() {
        int seed = draw.nextInt(9) == 0 ? draw.nextInt(3) - 1 + (draw.nextBoolean() ? 1_000_000 : 0) : draw.nextInt(1_000_000);
        int n = draw.nextInt(63) - 1;
        same("years(" + seed + ", " + n + ")", x.years(seed, n), y.years(seed, n));
        for (int k = -1; k < 8; k++) {
            for (int what = -1; what < 4; what++) {
                same("drawn(" + k + ", " + what + ")", x.drawn(k, what), y.drawn(k, what));
            }
        }
    }
}
