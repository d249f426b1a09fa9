import java.util.LinkedHashMap;
import java.util.Map;

/**
 * All that can be seen of an object, answer by answer: what stands, the LAWS, the latest YEARS, what can be undone step by
 * step, both IMAGES, the bytes of the TAPE (as a ROW, behind BACK to IMAGE 1). It takes some 400 calls and uses the object up.
 */
final class Seen {
    private final StatueRelief x;
    private final int men;
    private final Map<String, Long> all = new LinkedHashMap<>();

    private Seen(StatueRelief x) {
        this.x = x;
        this.men = x.count(0);
    }

    static Map<String, Long> of(StatueRelief x) {
        Seen s = new Seen(x);
        s.told();
        s.standing();
        s.laws();
        s.years();
        s.past();
        s.image(0);
        s.image(1);
        s.tape();
        return s.all;
    }

    static void same(String what, Map<String, Long> got, Map<String, Long> want) {
        Check.due(what + ": as many answers", got.size(), want.size());
        for (Map.Entry<String, Long> answer : want.entrySet()) {
            Check.due(what + ": " + answer.getKey(), got.getOrDefault(answer.getKey(), -99L), answer.getValue());
        }
    }

    private void see(String call, long answer) {
        all.put(call, answer);
    }

    private void told() {
        see("status", x.status());
        see("fault", x.fault());
        see("stopped", x.stopped());
        see("pigeons", x.pigeons());
        for (int what = 0; what <= 17; what++) {
            see("count " + what, x.count(what));
        }
    }

    private void standing() {
        for (int man = 0; man < men; man++) {
            for (int what = 0; what <= 8; what++) {
                see("of " + man + " " + what, x.of(man, what));
            }
        }
        see("canBe", x.canBe());
        see("take", x.take(0));
        see("few", x.few(3, 9));
        see("rota", x.rota(3, -1));
        see("order", x.order(-1));
        see("chain", x.chain(0, men - 1, -1));
    }

    private void laws() {
        for (int law = -1; law < 6; law++) {
            see("compare " + law, x.compare(law, 0, 1));
        }
    }

    private void years() {
        for (int man = 0; man < 7; man++) {
            see("drawn TIRED " + man, x.drawn(man, 0));
            see("drawn CASHIERED " + man, x.drawn(man, 1));
        }
        see("drawn UP", x.drawn(0, 2));
    }

    private void past() {
        for (int i = 0; i < 17; i++) {
            int deed = x.undo();
            see("undo " + i, deed);
            if (deed < 0) {
                return;
            }
            see("UP behind undo " + i, x.count(2));
            see("HELD behind undo " + i, x.count(3));
            see("HOUR behind undo " + i, x.count(14));
            for (int man = 0; man < Math.min(men, 4); man++) {
                see("TIRED " + man + " behind undo " + i, x.of(man, 2));
                see("CASHIERED " + man + " behind undo " + i, x.of(man, 3));
            }
        }
    }

    private void image(int k) {
        see("back " + k, x.back(k));
        for (int what : new int[] {0, 1, 2, 3, 4, 5, 13, 14, 15, 16, 17}) {
            see("count " + what + " behind back " + k, x.count(what));
        }
        for (int man = 0; man < 4; man++) {
            see("HOLD " + man + " behind back " + k, x.of(man, 0));
            see("TIRED " + man + " behind back " + k, x.of(man, 2));
            see("CASHIERED " + man + " behind back " + k, x.of(man, 3));
        }
        see("TIRES behind back " + k, x.of(0, 5));
        see("canBe behind back " + k, x.canBe());
    }

    private void tape() {
        see("bytes", x.count(7));
        see("row", x.row());
        see("pigeons of that row", x.pigeons());
        for (int man = 0; man < 7; man++) {
            see("HOLD " + man + " of that row", x.of(man, 0));
            see("LOOK " + man + " of that row", x.of(man, 1));
        }
    }
}
