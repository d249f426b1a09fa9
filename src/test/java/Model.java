import java.util.ArrayDeque;
import java.util.ArrayList;
import java.util.List;
import java.util.function.ToLongFunction;

/**
 * The document once more, written in another way than the class: trees and exceptions for the languages, whole copies
 * for what is undone, every row tried for rotas, orders and chains. ModelTest holds the class against it.
 */
final class Model {
    static final int NONE = -1;

    static final class Broken extends RuntimeException {
        private static final long serialVersionUID = 1L;
    }

    static final class Fault extends RuntimeException {
        private static final long serialVersionUID = 1L;
        final int place;

        Fault(int place) {
            this.place = place;
        }
    }

    interface Words {
        long of(String word);
    }

    static final class Clause {
        String kind;
        ToLongFunction<Words> sum;
        ToLongFunction<Words> test;
        int times = 1;
    }

    static final class Man implements Cloneable {
        int hold;
        int look;
        int tired;
        boolean cashiered;

        Man copy() {
            Man m = new Man();
            m.hold = hold;
            m.look = look;
            m.tired = tired;
            m.cashiered = cashiered;
            return m;
        }
    }

    static final class World {
        List<Man> men = new ArrayList<>();
        int up = NONE;
        int held;
        int[] terms = {0, 1, 0, 2};
        List<int[]> plates = new ArrayList<>();
        List<List<Clause>> laws = new ArrayList<>();
        int force = NONE;

        World copy() {
            World w = new World();
            for (Man m : men) {
                w.men.add(m.copy());
            }
            w.up = up;
            w.held = held;
            w.terms = terms.clone();
            w.plates.addAll(plates);
            w.laws.addAll(laws);
            w.force = force;
            return w;
        }

        boolean is(int m) {
            return 0 <= m && m < men.size();
        }

        int fit() {
            return (int) men.stream().filter(m -> !m.cashiered).count();
        }

        int unlike(int a, int b) {
            int n = 0;
            for (int f = 0; f < 6; f++) {
                n += (men.get(a).look >> f) % 2 != (men.get(b).look >> f) % 2 ? 1 : 0;
            }
            return n;
        }

        List<Clause> inForce() {
            return force == NONE ? List.of() : laws.get(force);
        }

        Long asked(List<Clause> law, String kind, int man, int other) {
            Words words = word -> {
                switch (word) {
                    case "man": return man;
                    case "hold": return men.get(man).hold;
                    case "tired": return men.get(man).tired;
                    case "held": return up == NONE ? 0 : held;
                    case "other": return other;
                    case "unlike": return other == NONE ? -1 : unlike(man, other);
                    case "hour": return terms[0];
                    case "weather": return terms[2];
                    default: throw new IllegalStateException(word);
                }
            };
            Long last = null;
            for (Clause c : law) {
                if (!c.kind.equals(kind)) {
                    continue;
                }
                try {
                    if (c.test == null || c.test.applyAsLong(words) != 0) {
                        last = c.sum == null ? Long.valueOf(1) : Long.valueOf(c.sum.applyAsLong(words));
                    }
                } catch (Broken b) {
                    // it does not HOLD
                }
            }
            return last;
        }

        static int near(Long told, int most, int without) {
            return told == null ? without : told < 0 ? 0 : told > most ? most : (int) (long) told;
        }

        int tires(int m) {
            return near(asked(inForce(), "tires", m, NONE), 9, 1);
        }

        int rests(int m) {
            return near(asked(inForce(), "rests", m, NONE), 9, 1);
        }

        boolean barred(int m) {
            return asked(inForce(), "bars", m, NONE) != null;
        }

        int noticed(List<Clause> law, int m, int other) {
            return other == NONE ? 0 : near(asked(law, "notices", m, other), 99, unlike(m, other));
        }

        boolean canRelieve(int m) {
            return up != m && !men.get(m).cashiered && !barred(m) && men.get(m).tired < men.get(m).hold;
        }

        int relieve(int m) {
            int eyes = noticed(inForce(), m, up);
            up = m;
            held = 0;
            return eyes;
        }

        void sneeze(int m) {
            men.get(m).cashiered = true;
            if (up == m) {
                up = NONE;
                held = 0;
            }
        }

        void pardon(int m) {
            men.get(m).cashiered = false;
            men.get(m).tired = 0;
        }

        int hour() {
            int[] by = new int[men.size()];
            for (int m = 0; m < by.length; m++) {
                by[m] = m == up ? tires(m) : -rests(m);
            }
            for (int m = 0; m < by.length; m++) {
                int t = men.get(m).tired + by[m];
                men.get(m).tired = t < 0 ? 0 : t > 99 ? 99 : t;
            }
            terms[0]++;
            if (up == NONE) {
                return 0;
            }
            held = held < 99 ? held + 1 : 99;
            Man who = men.get(up);
            if (who.tired > who.hold) {
                who.cashiered = true;
                up = NONE;
                held = 0;
                return 1;
            }
            return 0;
        }
    }

    World w = new World();
    StringBuilder tape = new StringBuilder();
    int fault = NONE;
    int pigeons = 0;
    int stopped = NONE;
    ArrayDeque<Object[]> past = new ArrayDeque<>();
    World[] images = new World[2];
    World drawn;
    int[] refused = new int[7];
    int status;

    private int no(int by) {
        status = by;
        refused[-by]++;
        return by;
    }

    private int yes(int answer) {
        status = 0;
        return answer;
    }

    int man(int hold, int look) {
        if (hold < 1 || hold > 9 || look < 0 || look > 63) {
            return no(-1);
        }
        if (w.men.size() == 7) {
            return no(-5);
        }
        past.clear();
        Man m = new Man();
        m.hold = hold;
        m.look = look;
        w.men.add(m);
        return yes(w.men.size() - 1);
    }

    int of(int man, int what) {
        if (!w.is(man) || what < 0 || what > 8) {
            return NONE;
        }
        Man m = w.men.get(man);
        boolean b = what == 3 && m.cashiered || what == 4 && w.up == man || what == 7 && w.barred(man)
                || what == 8 && w.canRelieve(man);
        return what == 0 ? m.hold : what == 1 ? m.look : what == 2 ? m.tired : what == 5 ? w.tires(man)
                : what == 6 ? w.rests(man) : b ? 1 : 0;
    }

    int two(int up, int down, int what) {
        if (!w.is(up) || !w.is(down) || up == down) {
            return NONE;
        }
        return what == 0 ? w.unlike(up, down) : what == 1 ? w.noticed(w.inForce(), up, down) : NONE;
    }

    int terms(int what, int value) {
        int most = what == 0 ? 999 : what == 1 ? 10 : what == 2 ? 9 : what == 3 ? 99 : -1;
        if (value < 0 || value > most) {
            return no(-1);
        }
        past.clear();
        int was = w.terms[what];
        w.terms[what] = value;
        return yes(was);
    }

    int feed(int a, int b, int c, int d, int e) {
        if (tape.length() > 380) {
            return NONE;
        }
        for (int n : new int[] {a, b, c, d, e}) {
            for (int i = 3; i >= 0; i--) {
                tape.append((char) Math.floorMod(Math.floorDiv((long) n, 1L << 8 * i), 256L));
            }
        }
        return tape.length();
    }

    int end(int n) {
        if (n < 0 || n > tape.length()) {
            return NONE;
        }
        tape.setLength(n);
        return n;
    }

    int row() {
        if (tape.length() == 0) {
            return no(-6);
        }
        past.clear();
        String t = tape.toString();
        tape.setLength(0);
        int came = 0;
        pigeons = 0;
        while (!t.isEmpty()) {
            int hold = t.charAt(0);
            if (t.length() == 1 || hold < 1 || hold > 9 || t.charAt(1) > 63 || w.men.size() == 7) {
                pigeons++;
            } else {
                Man m = new Man();
                m.hold = hold;
                m.look = t.charAt(1);
                w.men.add(m);
                came++;
            }
            t = t.substring(Math.min(2, t.length()));
        }
        return yes(came);
    }

    int law() {
        String t = tape.toString();
        tape.setLength(0);
        if (w.laws.size() == 6) {
            return no(-5);
        }
        try {
            w.laws.add(new Parser(t, false).text());
            fault = NONE;
            return yes(w.laws.size() - 1);
        } catch (Fault f) {
            fault = f.place;
            return no(-6);
        }
    }

    int orders() {
        String t = tape.toString();
        tape.setLength(0);
        stopped = NONE;
        List<Clause> text;
        try {
            text = new Parser(t, true).text();
            fault = NONE;
        } catch (Fault f) {
            fault = f.place;
            return no(-6);
        }
        World before = w.copy();
        ArrayDeque<Object[]> pastBefore = new ArrayDeque<>(past);
        int[] done = {0};
        int[] latest = {-1};
        Words words = word -> {
            if (word.startsWith("tired")) {
                int m = Integer.parseInt(word.substring(5));
                return w.is(m) ? w.men.get(m).tired : -1;
            }
            switch (word) {
                case "hour": return w.terms[0];
                case "done": return done[0];
                case "latest": return latest[0];
                case "up": return w.up;
                case "held": return w.held;
                case "fit": return w.fit();
                default: throw new IllegalStateException(word);
            }
        };
        for (int c = 0; c < text.size(); c++) {
            for (int i = 0; i < text.get(c).times; i++) {
                if (!runOne(text.get(c), words, done, latest)) {
                    w = before;
                    past = pastBefore;
                    stopped = c;
                    return no(-3);
                }
            }
        }
        return yes(done[0]);
    }

    private boolean runOne(Clause c, Words words, int[] done, int[] latest) {
        try {
            if (c.test != null && c.test.applyAsLong(words) == 0) {
                return true;
            }
        } catch (Broken b) {
            return true;
        }
        long man = 0;
        try {
            man = c.sum == null ? 0 : c.sum.applyAsLong(words);
        } catch (Broken b) {
            return false;
        }
        int told = act(List.of("relieve", "sneeze", "pardon", "pass").indexOf(c.kind), (int) man);
        if (told < 0) {
            return false;
        }
        if (c.kind.equals("relieve")) {
            latest[0] = told;
        }
        done[0]++;
        return true;
    }

    int force(int law) {
        if (law < -1 || law >= w.laws.size()) {
            return no(-2);
        }
        int was = w.force;
        w.force = law;
        return yes(was);
    }

    private int act(int deed, int m) {
        if (deed != 3 && !w.is(m)) {
            return -2;
        }
        boolean can = deed == 0 ? w.canRelieve(m) : deed == 1 ? !w.men.get(m).cashiered
                : deed == 2 ? w.men.get(m).cashiered : w.terms[0] != 999;
        if (!can) {
            return -3;
        }
        past.addLast(new Object[] {deed, w.copy()});
        if (past.size() > 16) {
            past.removeFirst();
        }
        if (deed == 0) {
            return w.relieve(m);
        }
        if (deed == 3) {
            return w.hour();
        }
        if (deed == 1) {
            w.sneeze(m);
        } else {
            w.pardon(m);
        }
        return w.fit();
    }

    int acted(int deed, int m) {
        int told = act(deed, m);
        return told < 0 ? no(told) : yes(told);
    }

    int undo() {
        if (past.isEmpty()) {
            return no(-3);
        }
        Object[] row = past.removeLast();
        World was = (World) row[1];
        w.up = was.up;
        w.held = was.held;
        w.terms[0] = was.terms[0];
        w.men = was.copy().men;
        return yes((Integer) row[0]);
    }

    int holds(int man) {
        if (!w.is(man)) {
            return NONE;
        }
        World p = w.copy();
        if (p.up != man) {
            p.up = man;
            p.held = 0;
        }
        int n = 0;
        while (n < 99 && p.hour() == 0) {
            n++;
        }
        return n;
    }

    private World on(int n) {
        World p = w.copy();
        for (int i = 0; i < n; i++) {
            p.hour();
        }
        return p;
    }

    int later(int n, int what) {
        if (n < 0 || n > 60 || what != 0 && !w.is(what - 1)) {
            return NONE;
        }
        World p = on(n);
        return what == 0 ? p.up : p.men.get(what - 1).tired;
    }

    int moment(int man, int what) {
        if (!w.is(man) || what != 0 && what != 1) {
            return NONE;
        }
        int[] best = null;
        for (int n = 0; n <= 12; n++) {
            World p = on(n);
            if (p.canRelieve(man)) {
                int eyes = p.noticed(p.inForce(), man, p.up);
                if (best == null || best[1] > eyes) {
                    best = new int[] {n, eyes};
                }
            }
        }
        return best == null ? NONE : best[what];
    }

    int rota(int n, int i) {
        if (n < 1 || n > 5 || i < -1 || i >= n || w.men.isEmpty()) {
            return NONE;
        }
        int[] best = null;
        int all = (int) Math.round(Math.pow(w.men.size(), n));
        for (int code = 0; code < all; code++) {
            int[] row = new int[n + 1];
            for (int h = n - 1, c = code; h >= 0; h--, c /= w.men.size()) {
                row[h] = c % w.men.size();
            }
            row[n] = eyesOf(row, n);
            if (row[n] != NONE && (best == null || row[n] < best[n])) {
                best = row;
            }
        }
        return best == null ? NONE : best[i == NONE ? n : i];
    }

    private int eyesOf(int[] row, int n) {
        World p = w.copy();
        int eyes = 0;
        for (int h = 0; h < n; h++) {
            if (row[h] != p.up) {
                if (!p.canRelieve(row[h])) {
                    return NONE;
                }
                eyes += p.relieve(row[h]);
            }
            if (p.hour() == 1) {
                return NONE;
            }
        }
        return eyes;
    }

    private void rows(List<Integer> soFar, int length, List<List<Integer>> all) {
        if (soFar.size() == length) {
            all.add(new ArrayList<>(soFar));
            return;
        }
        for (int m = 0; m < w.men.size(); m++) {
            if (!soFar.contains(m) && !w.men.get(m).cashiered) {
                soFar.add(m);
                rows(soFar, length, all);
                soFar.remove(soFar.size() - 1);
            }
        }
    }

    int order(int i) {
        if (i < -1 || i >= w.fit()) {
            return NONE;
        }
        int[][] eyes = new int[7][7];
        for (int a = 0; a < w.men.size(); a++) {
            for (int b = 0; b < w.men.size(); b++) {
                eyes[a][b] = a == b ? 0 : w.noticed(w.inForce(), a, b);
            }
        }
        List<List<Integer>> all = new ArrayList<>();
        rows(new ArrayList<>(), w.fit(), all);
        List<Integer> best = null;
        int least = 0;
        for (List<Integer> row : all) {
            if (w.up != NONE && row.get(0) != w.up) {
                continue;
            }
            int sum = 0;
            for (int k = 1; k < row.size(); k++) {
                sum += eyes[row.get(k)][row.get(k - 1)];
            }
            if (best == null || sum < least) {
                best = row;
                least = sum;
            }
        }
        return i == NONE ? least : best.get(i);
    }

    private List<Integer> chainOf(int from, int to, int length) {
        if (length == 0) {
            return from == to ? new ArrayList<>() : null;
        }
        for (int m = 0; m < w.men.size(); m++) {
            if (m != from && w.noticed(w.inForce(), m, from) <= w.terms[3]) {
                List<Integer> rest = chainOf(m, to, length - 1);
                if (rest != null) {
                    rest.add(0, m);
                    return rest;
                }
            }
        }
        return null;
    }

    int chain(int from, int to, int i) {
        if (!w.is(from) || !w.is(to)) {
            return NONE;
        }
        for (int length = 0; length < 7; length++) {
            List<Integer> c = chainOf(from, to, length);
            if (c != null) {
                return i == NONE ? length : i >= 0 && i < length ? c.get(i) : NONE;
            }
        }
        return NONE;
    }

    int groups(int h, int man) {
        int n = w.men.size();
        if (h < 0 || h > 6 || man != NONE && !w.is(man)) {
            return NONE;
        }
        int[] name = new int[n];
        for (int m = 0; m < n; m++) {
            name[m] = m;
        }
        for (int a = 0; a < n; a++) {
            for (int b = 0; b < n; b++) {
                if (w.unlike(a, b) <= h) {
                    int from = name[a];
                    for (int c = 0; c < n; c++) {
                        name[c] = name[c] == from ? name[b] : name[c];
                    }
                }
            }
        }
        int names = 0;
        int bits = 0;
        for (int m = 0; m < n; m++) {
            names |= 1 << name[m];
            bits += man != NONE && name[m] == name[man] ? 1 << m : 0;
        }
        return man == NONE ? Integer.bitCount(names) : bits;
    }

    int likest(int man) {
        if (!w.is(man)) {
            return NONE;
        }
        for (int u = 0; u <= 6; u++) {
            for (int m = 0; m < w.men.size(); m++) {
                if (m != man && w.unlike(man, m) == u) {
                    return m;
                }
            }
        }
        return NONE;
    }

    int plate(int feature, int is) {
        if (feature < 0 || feature > 5 || is != 0 && is != 1) {
            return no(-1);
        }
        if (w.plates.size() == 6) {
            return no(-5);
        }
        w.plates.add(new int[] {feature, is});
        return yes(w.plates.size());
    }

    int forget() {
        int n = w.plates.size();
        w.plates.clear();
        return n;
    }

    int canBe() {
        int bits = 0;
        for (int m = 0; m < w.men.size(); m++) {
            int look = w.men.get(m).look;
            bits += w.plates.stream().allMatch(p -> (look >> p[0]) % 2 == p[1]) ? 1 << m : 0;
        }
        return bits;
    }

    int take(int what) {
        int can = canBe();
        if (can == 0 || what != 0 && what != 1) {
            return NONE;
        }
        int[] best = null;
        for (int f = 0; f < 6; f++) {
            int[] n = new int[2];
            for (int m = 0; m < w.men.size(); m++) {
                if ((can >> m) % 2 == 1) {
                    n[(w.men.get(m).look >> f) % 2]++;
                }
            }
            int most = Math.max(n[0], n[1]);
            if (best == null || most < best[1]) {
                best = new int[] {f, most};
            }
        }
        return best[what];
    }

    long few(int k, int n) {
        if (k < 1 || k > 20 || n < 0 || n > 99) {
            return NONE;
        }
        long[] part = new long[n + 2];
        part[0] = 1_000_000_000_000L;
        for (int m = 0; m < n; m++) {
            long[] next = new long[n + 2];
            for (int j = 0; j <= m; j++) {
                next[j] += part[j] * (10 - w.terms[1]) / 10;
                next[j + 1] += part[j] * w.terms[1] / 10;
            }
            part = next;
        }
        long sum = 0;
        for (int j = 0; j < Math.min(k, n + 1); j++) {
            sum += part[j];
        }
        return sum;
    }

    int compare(int law, int up, int down) {
        if (law < -1 || law >= w.laws.size() || !w.is(up) || !w.is(down) || up == down) {
            return NONE;
        }
        return w.noticed(law == -1 ? List.of() : w.laws.get(law), up, down);
    }

    int years(int seed, int n) {
        if (seed < 0 || seed > 1_000_000 || n < 1 || n > 60) {
            return no(-1);
        }
        if (w.men.isEmpty()) {
            return no(-3);
        }
        World p = w.copy();
        long s = seed;
        int shook = 0;
        for (int i = 0; i < n && p.terms[0] != 999; i++) {
            s = (s * 1103 + 12345) % 1_000_003;
            int m = (int) (s % p.men.size());
            s = (s * 1103 + 12345) % 1_000_003;
            int deed = (int) (s % 8);
            if (deed <= 4 && p.canRelieve(m)) {
                p.relieve(m);
            } else if (deed == 5 && !p.men.get(m).cashiered) {
                p.sneeze(m);
            } else if (deed == 6 && p.men.get(m).cashiered) {
                p.pardon(m);
            }
            shook += p.hour();
        }
        drawn = p;
        return yes(shook);
    }

    int drawn(int k, int what) {
        if (drawn == null || !drawn.is(k) || what < 0 || what > 2) {
            return NONE;
        }
        return what == 0 ? drawn.men.get(k).tired : what == 1 ? drawn.men.get(k).cashiered ? 1 : 0
                : k == 0 ? drawn.up : NONE;
    }

    int image(int k) {
        if (k != 0 && k != 1) {
            return no(-1);
        }
        images[k] = w.copy();
        return yes(0);
    }

    int back(int k) {
        if (k != 0 && k != 1) {
            return no(-1);
        }
        if (images[k] == null) {
            return no(-2);
        }
        w = images[k].copy();
        past.clear();
        return yes(0);
    }

    int count(int what) {
        int[] all = {w.men.size(), w.fit(), w.up, w.held, w.plates.size(), w.laws.size(), past.size(), tape.length(),
            refused[1], refused[2], refused[3], refused[5], refused[6], w.force, w.terms[0], w.terms[1], w.terms[2],
            w.terms[3]};
        return what < 0 || what >= all.length ? NONE : all[what];
    }

    /** TOKENS first, then the grammar over them, as functions. */
    static final class Parser {
        private final List<String> tokens = new ArrayList<>();
        private final List<Integer> places = new ArrayList<>();
        private final boolean orders;
        private int i = 0;
        private int parts = 0;
        private int open = 0;

        Parser(String text, boolean orders) {
            this.orders = orders;
            int at = 0;
            while (at < text.length()) {
                int to = at + 1;
                String same = text.substring(at, to).matches("[a-z]") ? "[a-z]+"
                        : text.substring(at, to).matches("[0-9]") ? "[0-9]+" : null;
                while (same != null && to < text.length() && text.substring(at, to + 1).matches(same)) {
                    to++;
                }
                if (text.charAt(at) != ' ') {
                    tokens.add(text.substring(at, to));
                    places.add(at);
                }
                at = to;
            }
            tokens.add("");
            places.add(text.length());
        }

        private Fault fault() {
            return new Fault(places.get(i));
        }

        private boolean at(String token) {
            return tokens.get(i).equals(token);
        }

        private boolean took(String token) {
            if (at(token)) {
                i++;
                return true;
            }
            return false;
        }

        private void must(String token) {
            if (!took(token)) {
                throw fault();
            }
        }

        List<Clause> text() {
            List<Clause> all = new ArrayList<>();
            do {
                if (all.size() == 12) {
                    throw fault();
                }
                all.add(clause());
            } while (took(";"));
            must("");
            return all;
        }

        private Clause clause() {
            Clause c = new Clause();
            c.kind = tokens.get(i);
            List<String> withSum = orders ? List.of("relieve", "sneeze", "pardon") : List.of("tires", "rests", "notices");
            if (!withSum.contains(c.kind) && !c.kind.equals(orders ? "pass" : "bars")) {
                throw fault();
            }
            i++;
            if (withSum.contains(c.kind)) {
                c.sum = sum();
            }
            if (orders && took("times")) {
                c.times = number(1, 20);
            }
            if (took("if")) {
                c.test = test();
            }
            return c;
        }

        private int number(int low, int high) {
            String t = tokens.get(i);
            if (!t.matches("[0-9]+") || new java.math.BigInteger(t).bitLength() > 20 || Integer.parseInt(t) < low
                    || Integer.parseInt(t) > high) {
                throw fault();
            }
            i++;
            return Integer.parseInt(t);
        }

        private ToLongFunction<Words> test() {
            ToLongFunction<Words> left = both();
            while (took("or")) {
                ToLongFunction<Words> l = left;
                ToLongFunction<Words> r = both();
                left = x -> l.applyAsLong(x) != 0 ? 1 : r.applyAsLong(x);
            }
            return left;
        }

        private ToLongFunction<Words> both() {
            ToLongFunction<Words> left = plain();
            while (took("and")) {
                ToLongFunction<Words> l = left;
                ToLongFunction<Words> r = plain();
                left = x -> l.applyAsLong(x) == 0 ? 0 : r.applyAsLong(x);
            }
            return left;
        }

        private void openOne() {
            if (open == 8) {
                throw fault();
            }
            open++;
            i++;
        }

        private ToLongFunction<Words> plain() {
            if (took("not")) {
                ToLongFunction<Words> p = plain();
                return x -> p.applyAsLong(x) == 0 ? 1 : 0;
            }
            if (at("(")) {
                openOne();
                ToLongFunction<Words> t = test();
                must(")");
                open--;
                return t;
            }
            ToLongFunction<Words> l = sum();
            String op = tokens.get(i);
            if (!op.equals("<") && !op.equals(">") && !op.equals("=")) {
                throw fault();
            }
            i++;
            ToLongFunction<Words> r = sum();
            return x -> {
                int c = Long.compare(l.applyAsLong(x), r.applyAsLong(x));
                return (op.equals("<") ? c < 0 : op.equals(">") ? c > 0 : c == 0) ? 1 : 0;
            };
        }

        private static long within(long n) {
            if (n > 1_000_000_000L || n < -1_000_000_000L) {
                throw new Broken();
            }
            return n;
        }

        private ToLongFunction<Words> sum() {
            ToLongFunction<Words> left = term();
            while (at("+") || at("-")) {
                int sign = tokens.get(i++).equals("+") ? 1 : -1;
                ToLongFunction<Words> l = left;
                ToLongFunction<Words> r = term();
                left = x -> within(l.applyAsLong(x) + sign * r.applyAsLong(x));
            }
            return left;
        }

        private ToLongFunction<Words> term() {
            ToLongFunction<Words> left = part();
            while (at("*") || at("/") || at("%")) {
                String op = tokens.get(i++);
                ToLongFunction<Words> l = left;
                ToLongFunction<Words> r = part();
                left = x -> {
                    long a = l.applyAsLong(x);
                    long b = r.applyAsLong(x);
                    if (op.equals("*")) {
                        return within(a * b);
                    }
                    if (b == 0) {
                        throw new Broken();
                    }
                    long q = (Math.abs(a) / Math.abs(b)) * (a < 0 == b < 0 ? 1 : -1);
                    return op.equals("/") ? q : a - q * b;
                };
            }
            return left;
        }

        private ToLongFunction<Words> part() {
            if (at("[")) {
                openOne();
                ToLongFunction<Words> s = sum();
                must("]");
                open--;
                return s;
            }
            if (parts == 50) {
                throw fault();
            }
            parts++;
            if (tokens.get(i).matches("[0-9]+")) {
                long n = number(0, 1000);
                return x -> n;
            }
            List<String> words = orders ? List.of("hour", "done", "latest", "up", "held", "fit", "tired")
                    : List.of("man", "hold", "tired", "held", "other", "unlike", "hour", "weather");
            String word = tokens.get(i);
            if (!words.contains(word)) {
                throw fault();
            }
            i++;
            String name = orders && word.equals("tired") ? word + number(0, 6) : word;
            return x -> x.of(name);
        }
    }
}
