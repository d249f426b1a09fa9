/** Terms III, rows of MEN and LOOKS, and promises 24 to 31: each bound from both sides. */
public final class EdgeLooksTest {
    private static final int LEAST = Integer.MIN_VALUE;
    private static final int MOST = Integer.MAX_VALUE;

    public static void main(String[] args) {
        orderOfNone();
        orderBounds();
        orderUpFirst();
        orderAside();
        orderFirst();
        chainBounds();
        chainEyes();
        chainAside();
        chainFewestAndFirst();
        groupsBounds();
        groupsUnlike();
        groupsByRows();
        likest();
        plateBounds();
        sixPlates();
        canBe();
        take();
        takeLowest();
        Check.finish();
    }

    private static StatueRelief looks(int... looks) {
        StatueRelief x = new StatueRelief();
        for (int look : looks) {
            x.man(9, look);
        }
        return x;
    }

    private static void dueOrder(StatueRelief x, int eyes, int... row) {
        Check.due("order(NONE)", x.order(-1), eyes);
        for (int i = 0; i < row.length; i++) {
            Check.due("order(" + i + ")", x.order(i), row[i]);
        }
        for (int i : new int[] {row.length, 7, -2, LEAST, MOST}) {
            Check.due("order(" + i + ")", x.order(i), -1);
        }
    }

    /** order: "(i NONE; no MEN, or all CASHIERED: 0), the i-th MAN. NONE (not so many; others)." */
    private static void orderOfNone() {
        dueOrder(new StatueRelief(), 0);
        StatueRelief x = looks(0, 63);
        x.sneeze(0);
        dueOrder(x, 0, 1);
        x.sneeze(1);
        dueOrder(x, 0);
        x.pardon(0);
        dueOrder(x, 0, 0);
    }

    private static void orderBounds() {
        dueOrder(looks(0), 0, 0);
        dueOrder(looks(0, 63), 6, 0, 1);
        dueOrder(looks(63, 0, 31, 1, 15, 3, 7), 6, 0, 2, 4, 6, 5, 3, 1);
        StatueRelief x = looks(0, 0, 0, 0, 0, 0, 0);
        Check.inForce(x, "notices 99");
        dueOrder(x, 594, 0, 1, 2, 3, 4, 5, 6);
    }

    /** "who is UP first, if one is". */
    private static void orderUpFirst() {
        StatueRelief x = looks(0, 1, 3);
        dueOrder(x, 2, 0, 1, 2);
        x.relieve(1);
        dueOrder(x, 3, 1, 0, 2);
        x.relieve(2);
        dueOrder(x, 2, 2, 1, 0);
        x.sneeze(2);
        dueOrder(x, 1, 0, 1);
    }

    /** "(asked as all is now; BARRED, HOLD aside)". */
    private static void orderAside() {
        StatueRelief x = Check.men(1, 0, 1, 1, 1, 3);
        x.relieve(0);
        x.pass();
        Check.inForce(x, "bars;notices hour*10+held+tired");
        Check.due("as TIRED as his HOLD", x.of(0, 2), 1);
        dueOrder(x, 22, 0, 1, 2);
        x.force(-1);
        x.relieve(1);
        x.force(0);
        // 0 is TIRED, HELD is 0 now: 11 for 0 going UP, 10 for 2.
        dueOrder(x, 21, 1, 0, 2);
    }

    /** "the first such". */
    private static void orderFirst() {
        dueOrder(looks(5, 5, 5, 5), 0, 0, 1, 2, 3);
        dueOrder(looks(0, 3, 1, 2), 3, 0, 2, 1, 3);
        StatueRelief x = looks(5, 5, 5, 5);
        x.relieve(2);
        dueOrder(x, 0, 2, 0, 1, 3);
    }

    private static void dueChain(StatueRelief x, int from, int to, int... row) {
        Check.due("chain(" + from + ", " + to + ", NONE)", x.chain(from, to, -1), row.length);
        for (int i = 0; i < row.length; i++) {
            Check.due("chain(" + from + ", " + to + ", " + i + ")", x.chain(from, to, i), row[i]);
        }
        for (int i : new int[] {row.length, 7, -2, LEAST, MOST}) {
            Check.due("chain(" + from + ", " + to + ", " + i + ")", x.chain(from, to, i), -1);
        }
    }

    private static void noChain(StatueRelief x, int from, int to) {
        for (int i : new int[] {-1, 0, 1, -2, LEAST, MOST}) {
            Check.due("chain(" + from + ", " + to + ", " + i + ")", x.chain(from, to, i), -1);
        }
    }

    /** chain: "(i NONE; to oneself: 0) .. NONE (there is none; not so many; no such MEN)." */
    private static void chainBounds() {
        StatueRelief x = looks(0, 1);
        dueChain(x, 0, 0);
        dueChain(x, 1, 1);
        dueChain(x, 0, 1, 1);
        dueChain(x, 1, 0, 0);
        for (int man : new int[] {-1, 2, 7, LEAST, MOST}) {
            noChain(x, man, 0);
            noChain(x, 0, man);
            noChain(x, man, man);
        }
        noChain(new StatueRelief(), 0, 0);
        StatueRelief y = looks(0, 1, 3, 7, 15, 31, 63);
        y.terms(3, 1);
        dueChain(y, 0, 6, 1, 2, 3, 4, 5, 6);
        dueChain(y, 6, 0, 5, 4, 3, 2, 1, 0);
        StatueRelief z = looks(0, 0, 0);
        Check.inForce(z, "notices 9;notices 0 if man = other + 1");
        dueChain(z, 0, 1, 1);
        dueChain(z, 1, 1);
    }

    /** "NOTICED by EYES at most": 0 .. 99. */
    private static void chainEyes() {
        for (int unlike = 0; unlike <= 6; unlike++) {
            StatueRelief x = looks(0, (1 << unlike) - 1);
            x.terms(3, unlike);
            dueChain(x, 0, 1, 1);
            if (unlike > 0) {
                x.terms(3, unlike - 1);
                noChain(x, 0, 1);
            }
        }
        StatueRelief x = looks(0, 0);
        Check.inForce(x, "notices 99");
        x.terms(3, 98);
        noChain(x, 0, 1);
        dueChain(x, 0, 0);
        x.terms(3, 99);
        dueChain(x, 0, 1, 1);
    }

    /** "(asked as all is now; CASHIERED, BARRED, HOLD aside)"; each goes UP for the one ahead. */
    private static void chainAside() {
        StatueRelief x = Check.men(1, 0, 1, 3, 1, 15);
        x.relieve(1);
        x.pass();
        x.pass();
        Check.due("he SHOOK", x.of(1, 3), 1);
        Check.inForce(x, "bars");
        dueChain(x, 0, 2, 1, 2);
        Check.inForce(x, "notices 3;notices 2 if man = other + 1 and hour = 2 and held = 0");
        dueChain(x, 0, 2, 1, 2);
        noChain(x, 2, 0);
        Check.inForce(x, "notices 3;notices 2 if tired = 2");
        dueChain(x, 0, 1, 1);
        noChain(x, 1, 0);
    }

    /** "the fewest MEN"; "the first as a row". */
    private static void chainFewestAndFirst() {
        StatueRelief x = looks(0, 15, 3, 5, 12);
        dueChain(x, 0, 1, 2, 1);
        x.terms(3, 4);
        dueChain(x, 0, 1, 1);
        StatueRelief y = looks(63, 0, 60, 48);
        dueChain(y, 1, 0, 3, 2, 0);
        StatueRelief z = looks(0, 5, 12, 3, 15);
        dueChain(z, 0, 4, 1, 4);
    }

    /** groups: "by h 0 .. 6: how many (man NONE), who is of that of a MAN, as bits. NONE (others)." */
    private static void groupsBounds() {
        StatueRelief x = looks(0, 63);
        for (int h : new int[] {-1, 7, LEAST, MOST}) {
            Check.due("groups(" + h + ", NONE)", x.groups(h, -1), -1);
            Check.due("groups(" + h + ", 0)", x.groups(h, 0), -1);
        }
        for (int h = 0; h <= 6; h++) {
            for (int man : new int[] {-2, 2, 7, LEAST, MOST}) {
                Check.due("groups(" + h + ", " + man + ")", x.groups(h, man), -1);
            }
            Check.due("how many by " + h, x.groups(h, -1), h < 6 ? 2 : 1);
            Check.due("of 0 by " + h, x.groups(h, 0), h < 6 ? 1 : 3);
            Check.due("of 1 by " + h, x.groups(h, 1), h < 6 ? 2 : 3);
            Check.due("of nobody by " + h, new StatueRelief().groups(h, -1), 0);
            Check.due("there is no 0", new StatueRelief().groups(h, 0), -1);
        }
        Check.due("one", looks(5).groups(0, -1), 1);
        Check.due("he", looks(5).groups(0, 0), 1);
        Check.due("seven by 0", looks(0, 1, 2, 3, 4, 5, 6).groups(0, -1), 7);
        Check.due("all seven", looks(9, 9, 9, 9, 9, 9, 9).groups(0, 6), 127);
    }

    /** "each UNLIKE the next one by h at most". */
    private static void groupsUnlike() {
        for (int unlike = 0; unlike <= 6; unlike++) {
            StatueRelief x = looks(0, (1 << unlike) - 1);
            for (int h = 0; h <= 6; h++) {
                Check.due("UNLIKE " + unlike + " by " + h, x.groups(h, -1), unlike <= h ? 1 : 2);
            }
        }
    }

    /** "if from one to the other there is a row of MEN". */
    private static void groupsByRows() {
        StatueRelief x = looks(63, 1, 15, 0, 31, 3, 7);
        Check.due("a row through all", x.groups(1, -1), 1);
        Check.due("from its one end", x.groups(1, 0), 127);
        Check.due("from its other end", x.groups(1, 3), 127);
        StatueRelief y = looks(0, 63, 1, 62, 3);
        Check.due("two rows", y.groups(1, -1), 2);
        Check.due("the one", y.groups(1, 0), 21);
        Check.due("the other", y.groups(1, 3), 10);
        y.sneeze(2);
        Check.due("CASHIERED or not", y.groups(1, 0), 21);
    }

    /** likest: "the other one who is least UNLIKE; the lowest"; "NONE (no other one; no such MAN)". */
    private static void likest() {
        Check.due("nobody", new StatueRelief().likest(0), -1);
        Check.due("no other one", looks(5).likest(0), -1);
        StatueRelief x = looks(0, 63);
        Check.due("the other one", x.likest(0), 1);
        Check.due("the other way round", x.likest(1), 0);
        for (int man : new int[] {-1, 2, 7, LEAST, MOST}) {
            Check.due("likest(" + man + ")", x.likest(man), -1);
        }
        StatueRelief y = looks(7, 7, 7, 6);
        Check.due("the lowest of 1, 2", y.likest(0), 1);
        Check.due("the lowest of 0, 2", y.likest(1), 0);
        Check.due("the lowest of 0, 1, 2", y.likest(3), 0);
        Check.due("the last", looks(0, 1, 2, 4, 8, 16, 0).likest(0), 6);
    }

    /** plate: "how many there are. -1 (FEATURE 0 .. 5, is 1, 0)". */
    private static void plateBounds() {
        StatueRelief x = looks(1, 32);
        for (int feature : new int[] {-1, 6, LEAST, MOST, 32}) {
            Check.refused("FEATURE " + feature, x, x.plate(feature, 0), -1);
            Check.refused("FEATURE " + feature, x, x.plate(feature, 1), -1);
        }
        for (int is : new int[] {-1, 2, LEAST, MOST}) {
            Check.refused("is " + is, x, x.plate(0, is), -1);
            Check.refused("is " + is, x, x.plate(5, is), -1);
        }
        Check.due("none", x.count(4), 0);
        Check.due("nobody is ruled out", x.canBe(), 3);
        Check.due("FEATURE 0", x.plate(0, 1), 1);
        Check.due("he has it", x.canBe(), 1);
        x.forget();
        Check.due("FEATURE 5", x.plate(5, 1), 1);
        Check.due("he has it", x.canBe(), 2);
        x.forget();
        Check.due("FEATURE 5, not", x.plate(5, 0), 1);
        Check.due("he has it not", x.canBe(), 1);
        x.forget();
        Check.due("forgotten", x.canBe(), 3);
    }

    /** "PLATES, 6 at most"; plate: "-5. It leaves what can be undone"; forget: "how many there were". */
    private static void sixPlates() {
        StatueRelief x = looks(63, 0);
        x.relieve(0);
        Check.due("there were none", x.forget(), 0);
        for (int i = 1; i <= 6; i++) {
            Check.due("PLATE " + i, x.plate(i - 1, 1), i);
            Check.due("status", x.status(), 0);
            Check.due("PLATES", x.count(4), i);
        }
        Check.refused("a seventh", x, x.plate(0, 0), -5);
        Check.refused("one that is there", x, x.plate(0, 1), -5);
        Check.refused("-1 is ahead of -5", x, x.plate(6, 0), -1);
        Check.refused("-1 is ahead of -5", x, x.plate(0, 2), -1);
        Check.due("PLATES", x.count(4), 6);
        Check.due("as they were", x.canBe(), 1);
        Check.due("there were six", x.forget(), 6);
        Check.due("there are none", x.count(4), 0);
        Check.due("all", x.canBe(), 3);
        Check.due("the first again", x.plate(0, 0), 1);
        Check.due("there was one", x.forget(), 1);
        Check.due("what can be undone", x.count(6), 1);
        x.undo();
        x.plate(1, 1);
        Check.due("the same six times", x.plate(1, 1) + x.plate(1, 1) + x.plate(1, 1) + x.plate(1, 1) + x.plate(1, 1), 20);
    }

    /** canBe: "MEN of whom all PLATES are so". */
    private static void canBe() {
        Check.due("of nobody", new StatueRelief().canBe(), 0);
        Check.due("without PLATES", looks(0, 1, 2, 3, 4, 5, 6).canBe(), 127);
        StatueRelief x = looks(0, 1, 2, 3, 4, 5, 6);
        x.plate(2, 1);
        Check.due("4, 5, 6", x.canBe(), 112);
        x.plate(0, 0);
        Check.due("4, 6", x.canBe(), 80);
        x.plate(1, 1);
        Check.due("6", x.canBe(), 64);
        x.sneeze(6);
        Check.due("CASHIERED or not", x.canBe(), 64);
        x.plate(1, 0);
        Check.due("one against another", x.canBe(), 0);
        x.forget();
        for (int f = 0; f <= 5; f++) {
            x.plate(f, 0);
        }
        Check.due("who has none", x.canBe(), 1);
    }

    /** take: "the FEATURE (what 0), how many MEN are left at most (1). NONE (it can be none)." */
    private static void take() {
        StatueRelief x = new StatueRelief();
        Check.due("there is nobody", x.take(0), -1);
        Check.due("there is nobody", x.take(1), -1);
        x = looks(63);
        Check.due("one: the lowest", x.take(0), 0);
        Check.due("he is left", x.take(1), 1);
        for (int what : new int[] {-1, 2, LEAST, MOST}) {
            Check.due("what " + what, x.take(what), -1);
        }
        x.plate(5, 0);
        Check.due("it can be none", x.take(0), -1);
        Check.due("it can be none", x.take(1), -1);
        for (int f = 0; f <= 5; f++) {
            x = looks(0, 1 << f);
            Check.due("the only one that parts them", x.take(0), f);
            Check.due("one is left", x.take(1), 1);
        }
    }

    /** "the more of those who have it and those who have not are as few as can be; the lowest". */
    private static void takeLowest() {
        StatueRelief x = looks(3, 3, 0, 0);
        Check.due("0 and 1 alike", x.take(0), 0);
        Check.due("two", x.take(1), 2);
        x = looks(0, 0, 0);
        Check.due("none parts them", x.take(0), 0);
        Check.due("three", x.take(1), 3);
        x = looks(63, 63, 63);
        Check.due("none parts them", x.take(0), 0);
        Check.due("three", x.take(1), 3);
        x = looks(1, 1, 1, 1, 1, 48, 32);
        Check.due("by 0: 5, by 4: 6, by 5: 5", x.take(0), 0);
        Check.due("five", x.take(1), 5);
        x = looks(1, 3, 7, 15, 31, 63, 63);
        Check.due("by 3: 4 of 7", x.take(0), 3);
        Check.due("four", x.take(1), 4);
    }
}
