/** Terms III and IV, FEW, YEARS, IMAGES, and promises 32, 34 to 39: each bound from both sides. */
public final class EdgeYearsTest {
    private static final long ALL = 1_000_000_000_000L;
    private static final int LEAST = Integer.MIN_VALUE;
    private static final int MOST = Integer.MAX_VALUE;

    public static void main(String[] args) {
        fewBounds();
        fewSneezes();
        fewCut();
        yearsBounds();
        yearsNoMen();
        yearsLength();
        yearsDraws();
        yearsEnd();
        drawn();
        drawnLatest();
        images();
        back();
        count();
        refusedCounts();
        status();
        Check.finish();
    }

    /** few: "k 1 .. 20, n 0 .. 99. NONE." */
    private static void fewBounds() {
        StatueRelief x = new StatueRelief();
        for (int k : new int[] {0, -1, 21, LEAST, MOST}) {
            Check.due("k " + k, x.few(k, 5), -1);
        }
        for (int n : new int[] {-1, 100, LEAST, MOST}) {
            Check.due("n " + n, x.few(5, n), -1);
        }
        Check.due("k 1, n 0", x.few(1, 0), ALL);
        Check.due("k 20, n 0", x.few(20, 0), ALL);
        Check.due("k 1, n 1", x.few(1, 1), ALL / 10 * 9);
        Check.so("k 1, n 99", x.few(1, 99) > 0 && x.few(1, 99) < ALL / 10_000);
        Check.so("k 20, n 99", x.few(20, 99) > ALL / 100 * 99 && x.few(20, 99) < ALL);
        Check.due("it is no refusal", x.status() + x.count(8), 0);
    }

    /** "each of whom sneezes in SNEEZES of ten": 0 and 10 of ten. */
    private static void fewSneezes() {
        StatueRelief x = new StatueRelief();
        x.terms(1, 0);
        Check.due("nobody ever", x.few(1, 99), ALL);
        Check.due("nobody ever", x.few(20, 99), ALL);
        x.terms(1, 10);
        for (int n = 0; n <= 21; n++) {
            for (int k : new int[] {1, 2, 19, 20}) {
                Check.due("all always: fewer than " + k + " of " + n, x.few(k, n), n < k ? ALL : 0);
            }
        }
        x.terms(1, 5);
        Check.due("two, fewer than one", x.few(1, 2), ALL / 4);
        Check.due("two, fewer than two", x.few(2, 2), ALL / 4 * 3);
        Check.due("two, fewer than three", x.few(3, 2), ALL);
        x.terms(1, 9);
        Check.due("three, fewer than one", x.few(1, 3), ALL / 1000);
        Check.due("three, fewer than three", x.few(3, 3), ALL / 1000 * 271);
    }

    /** "both cut": behind twelve men each part still comes out even, behind thirteen it is cut. */
    private static void fewCut() {
        StatueRelief x = new StatueRelief();
        Check.due("12 men", x.few(1, 12), 282_429_536_481L);
        Check.due("13 men: 254,186,582,832.9", x.few(1, 13), 254_186_582_832L);
        Check.due("14 men: of what was cut", x.few(1, 14), 228_767_924_548L);
        x.terms(1, 5);
        Check.due("12 men", x.few(1, 12), 244_140_625L);
        Check.due("13 men: 122,070,312.5", x.few(1, 13), 122_070_312L);
        // 244,140,625 of none, 2,929,687,500 of one: the half of the one is cut, that of the other goes up.
        Check.due("13 men, fewer than two", x.few(2, 13), 122_070_312L + 122_070_312L + 1_464_843_750L);
        Check.due("all parts of 13 men", x.few(20, 13), sum());
    }

    /** By fives every odd part loses a half twice: of the 13 parts behind 12 men, those that are odd lose one each. */
    private static long sum() {
        long part = 244_140_625L;
        long sum = 0;
        for (int j = 0; j <= 12; j++) {
            sum += part * choose(j) / 2 * 2;
        }
        return sum;
    }

    private static long choose(int j) {
        long ways = 1;
        for (int i = 0; i < j; i++) {
            ways = ways * (12 - i) / (i + 1);
        }
        return ways;
    }

    /** "YEARS with a SEED, n 1 .. 60"; "the SEED (0 .. 1,000,000)"; years: "-1". */
    private static void yearsBounds() {
        StatueRelief x = Check.men(9, 0);
        for (int seed : new int[] {-1, 1_000_001, LEAST, MOST}) {
            Check.refused("SEED " + seed, x, x.years(seed, 1), -1);
        }
        for (int n : new int[] {0, -1, 61, LEAST, MOST}) {
            Check.refused("n " + n, x, x.years(5, n), -1);
        }
        Check.due("none were drawn", x.drawn(0, 0), -1);
        for (int seed : new int[] {0, 1_000_000}) {
            for (int n : new int[] {1, 60}) {
                Check.so("SEED " + seed + ", n " + n, x.years(seed, n) >= 0);
                Check.due("status", x.status(), 0);
            }
        }
    }

    /** years: "-3 there are no MEN". */
    private static void yearsNoMen() {
        StatueRelief x = new StatueRelief();
        Check.refused("no MEN", x, x.years(5, 1), -3);
        Check.refused("-1 is ahead of -3: SEED", x, x.years(-1, 1), -1);
        Check.refused("-1 is ahead of -3: n", x, x.years(5, 61), -1);
        x.man(1, 1);
        x.sneeze(0);
        Check.so("all are CASHIERED: it can be", x.years(5, 1) >= 0);
        Check.due("status", x.status(), 0);
    }

    /** n HOURS pass: one who is UP, BARRED from all reliefs, is TIRED by n as long as no sneeze comes. */
    private static void yearsLength() {
        // With SEED 3 the first three of the second DRAWS tell of reliefs, which can't be.
        StatueRelief x = Check.men(9, 0);
        x.relieve(0);
        Check.inForce(x, "bars");
        for (int n = 1; n <= 3; n++) {
            Check.due("none SHAKES", x.years(3, n), 0);
            Check.due("n " + n, x.drawn(0, 0), n);
        }
        Check.due("nothing is done", x.count(14) + x.of(0, 2), 0);
        StatueRelief y = Check.men(2, 0);
        y.relieve(0);
        Check.inForce(y, "bars");
        Check.due("he SHAKES in the third", y.years(3, 3), 1);
        Check.due("TIRED 3", y.drawn(0, 0), 3);
        Check.due("CASHIERED", y.drawn(0, 1), 1);
        Check.due("nobody is UP", y.drawn(0, 2), -1);
    }

    /**
     * "s becomes (s times 1103 and 12345) modulo 1,000,003, it is s modulo m"; "at 0 .. 4 (the second DRAW) that MAN
     * RELIEVES, at 5 he SNEEZES, at 6 he is PARDONED, each if it can be, at 7 nothing". SEEDS whose second DRAW is
     * each of the eight, found here by the rule itself.
     */
    private static void yearsDraws() {
        boolean[] seen = new boolean[8];
        for (int seed = 0; seed <= 1_000_000; seed += 31_250) {
            long s = (seed * 1103L + 12345) % 1_000_003;
            int man = (int) (s % 2);
            s = (s * 1103L + 12345) % 1_000_003;
            int deed = (int) (s % 8);
            seen[deed] = true;
            StatueRelief x = Check.men(9, 0, 9, 0);
            x.years(seed, 1);
            Check.due("UP by DRAW " + deed, x.drawn(0, 2), deed <= 4 ? man : -1);
            Check.due("TIRED by DRAW " + deed, x.drawn(man, 0), deed <= 4 ? 1 : 0);
            Check.due("CASHIERED by DRAW " + deed, x.drawn(man, 1), deed == 5 ? 1 : 0);
            Check.due("the other one", x.drawn(1 - man, 0) + x.drawn(1 - man, 1), 0);
            x.sneeze(0);
            x.sneeze(1);
            x.years(seed, 1);
            Check.due("CASHIERED both, by DRAW " + deed, x.drawn(man, 1), deed == 6 ? 0 : 1);
            Check.due("nobody is UP", x.drawn(0, 2), -1);
        }
        for (int deed = 0; deed <= 7; deed++) {
            Check.so("a DRAW of " + deed + " was seen", seen[deed]);
        }
    }

    /** "(at HOUR 999 it ends)". */
    private static void yearsEnd() {
        int[] passed = {0, 1, 2, 3};
        for (int hours : passed) {
            StatueRelief x = Check.men(9, 0);
            x.relieve(0);
            x.terms(0, 999 - hours);
            Check.inForce(x, "bars");
            Check.due("none SHAKES", x.years(3, 3), 0);
            Check.due(hours + " HOURS are left", x.drawn(0, 0), hours);
            x.years(3, 60);
            Check.due("whatever n is, " + hours, hours < 3 ? x.drawn(0, 0) : 3, hours);
            Check.due("HOUR", x.count(14), 999 - hours);
        }
        StatueRelief x = Check.men(9, 0);
        x.terms(0, 999);
        Check.due("at once", x.years(5, 60), 0);
        Check.due("nobody RELIEVES", x.drawn(0, 2), -1);
        Check.due("it was drawn", x.drawn(0, 0), 0);
    }

    /** drawn: "how TIRED he is (what 0), whether CASHIERED (1: 1, 0), who is UP (2, k 0; NONE: nobody). NONE." */
    private static void drawn() {
        StatueRelief x = Check.men(9, 0, 9, 0);
        for (int what = 0; what <= 2; what++) {
            Check.due("ahead of any", x.drawn(0, what), -1);
        }
        x.relieve(1);
        x.terms(0, 999);
        x.years(5, 1);
        Check.due("who is UP", x.drawn(0, 2), 1);
        Check.due("k 1", x.drawn(1, 2), -1);
        for (int k : new int[] {-1, 2, 6, 7, LEAST, MOST}) {
            for (int what = 0; what <= 2; what++) {
                Check.due("drawn(" + k + ", " + what + ")", x.drawn(k, what), -1);
            }
        }
        for (int what : new int[] {-1, 3, LEAST, MOST}) {
            Check.due("drawn(0, " + what + ")", x.drawn(0, what), -1);
        }
        Check.due("the last", x.drawn(1, 0), 0);
        Check.due("the last", x.drawn(1, 1), 0);
        Check.due("it is no refusal", x.status() + x.count(8) + x.count(9), 0);
    }

    /** "YEARS, kept as the latest": those that were not REFUSED. */
    private static void drawnLatest() {
        StatueRelief x = Check.men(9, 0);
        x.terms(0, 999);
        x.years(5, 1);
        x.relieve(0);
        Check.due("as it was drawn", x.drawn(0, 2), -1);
        x.years(5, 61);
        x.years(-1, 1);
        Check.due("REFUSED ones leave it", x.drawn(0, 2), -1);
        x.years(5, 1);
        Check.due("the latest", x.drawn(0, 2), 0);
        x.undo();
        Check.due("undo() leaves it", x.drawn(0, 2), 0);
    }

    /** image: "IMAGE k is kept: 0; -1"; "IMAGES 0, 1". */
    private static void images() {
        StatueRelief x = Check.men(1, 1);
        for (int k : new int[] {-1, 2, LEAST, MOST}) {
            Check.refused("image(" + k + ")", x, x.image(k), -1);
            Check.refused("back(" + k + ")", x, x.back(k), -1);
        }
        Check.refused("0 was not kept", x, x.back(0), -2);
        Check.refused("1 was not kept", x, x.back(1), -2);
        Check.due("1 MAN still", x.count(0), 1);
        Check.due("image(0)", x.image(0), 0);
        Check.due("status", x.status(), 0);
        Check.refused("1 was not kept still", x, x.back(1), -2);
        x.man(2, 2);
        Check.due("image(1)", x.image(1), 0);
        x.man(3, 3);
        Check.due("back(0)", x.back(0), 0);
        Check.due("1 MAN", x.count(0), 1);
        Check.due("status", x.status(), 0);
        Check.due("back(1)", x.back(1), 0);
        Check.due("2 MEN", x.count(0), 2);
    }

    /** "BACK to one all that it keeps is as it was then (IMAGES stay)": empty, full, kept anew. */
    private static void back() {
        StatueRelief x = new StatueRelief();
        x.image(0);
        for (int i = 0; i < 7; i++) {
            x.man(1 + i, 9 * i);
            if (i < 6) {
                Check.law(x, "tires " + (2 + i));
                x.plate(i, i % 2);
            }
        }
        x.force(5);
        for (int what = 1; what <= 3; what++) {
            x.terms(what, 5 + what);
        }
        x.relieve(6);
        x.pass();
        x.sneeze(0);
        x.image(1);
        x.back(0);
        Check.due("TERMS", x.count(15) * 100 + x.count(16) * 10 + x.count(17), 102);
        Check.due("nothing at all", x.count(0) + x.count(4) + x.count(5) + x.count(6) + x.count(14), 0);
        Check.due("nobody, no LAW", x.count(2) + x.count(13), -2);
        Check.refused("nothing can be undone", x, x.undo(), -3);
        Check.due("there is room again", x.man(9, 9) + Check.law(x, "bars") + x.plate(0, 0), 1);
        x.back(1);
        Check.due("all of it", x.count(0) * 100 + x.count(4) * 10 + x.count(5), 766);
        Check.due("UP, HELD", x.count(2) * 10 + x.count(3), 61);
        Check.due("in FORCE", x.count(13), 5);
        Check.due("TERMS", x.count(15) * 100 + x.count(16) * 10 + x.count(17), 678);
        Check.due("it tells", x.of(6, 5), 7);
        x.force(0);
        Check.due("the first, too", x.of(6, 5), 2);
        Check.due("TIRED", x.of(6, 2), 7);
        Check.due("CASHIERED", x.of(0, 3), 1);
        Check.refused("there is no room again", x, x.man(1, 1), -5);
        Check.refused("for a LAW", x, Check.law(x, "bars"), -5);
        Check.refused("for a PLATE", x, x.plate(1, 1), -5);
        x.back(0);
        x.man(1, 21);
        for (int m = 0; m < 6; m++) {
            x.man(1, 0);
        }
        Check.due("as new ones", x.of(6, 2) + x.of(0, 3), 0);
        Check.due("without PLATES", x.canBe(), 127);
        x.back(0);
        Check.due("IMAGES stay", x.count(0), 0);
        x.back(1);
        x.image(0);
        x.back(0);
        Check.due("kept anew", x.count(0), 7);
    }

    /** count: "0 MEN .. 14 .. 17 TERMS 0 .. 3. NONE for others." */
    private static void count() {
        StatueRelief x = new StatueRelief();
        for (int what : new int[] {-1, 18, LEAST, MOST}) {
            Check.due("count(" + what + ")", x.count(what), -1);
        }
        int[] first = {0, 0, -1, 0, 0, 0, 0, 0, 0, 0, 0, 0, 0, -1, 0, 1, 0, 2};
        for (int what = 0; what < first.length; what++) {
            Check.due("count(" + what + ") at first", x.count(what), first[what]);
        }
        for (int i = 0; i < 7; i++) {
            x.man(9, 0);
        }
        for (int i = 0; i < 6; i++) {
            Check.law(x, "tires 0");
            x.plate(i, 0);
        }
        x.force(5);
        x.terms(0, 899);
        x.terms(1, 10);
        x.terms(2, 9);
        x.terms(3, 99);
        x.relieve(6);
        Check.passes(x, 100);
        for (int i = 0; i < 20; i++) {
            x.feed(0, 0, 0, 0, 0);
        }
        int[] full = {7, 7, 6, 99, 6, 6, 16, 400, 0, 0, 0, 0, 0, 5, 999, 10, 9, 99};
        for (int what = 0; what < full.length; what++) {
            Check.due("count(" + what + "), all full", x.count(what), full[what]);
        }
    }

    /** count: "8 .. 12 how many calls were REFUSED by -1, -2, -3, -5, -6 (IMAGES do not keep that)". */
    private static void refusedCounts() {
        StatueRelief x = new StatueRelief();
        x.image(0);
        int[] due = new int[5];
        for (int round = 1; round <= 3; round++) {
            x.man(0, 0);
            due[0]++;
            x.relieve(9);
            due[1]++;
            x.undo();
            due[2]++;
            x.row();
            due[4]++;
            for (int i = 0; i < 5; i++) {
                Check.due("count(" + (8 + i) + ")", x.count(8 + i), due[i]);
            }
            for (int i = 0; i < 7; i++) {
                x.plate(0, 0);
            }
            due[3]++;
            x.back(0);
            Check.due("BACK leaves them", x.count(11), due[3]);
        }
        x.few(0, 0);
        x.of(9, 9);
        x.end(-1);
        x.groups(9, 9);
        x.compare(9, 9, 9);
        x.force(-1);
        Check.orders(x, "pass if 1=2");
        for (int i = 0; i < 5; i++) {
            Check.due("NONE is no refusal, " + (8 + i), x.count(8 + i), due[i]);
        }
    }

    /** status: "0 if it was not, or ahead of any": an answer of -1 .. that is none leaves it 0. */
    private static void status() {
        StatueRelief x = new StatueRelief();
        Check.due("ahead of any", x.status(), 0);
        x.man(0, 0);
        Check.due("-1", x.status(), -1);
        Check.due("force(NONE) answers NONE", x.force(-1), -1);
        Check.due("and was not REFUSED", x.status(), 0);
        x.force(0);
        Check.due("-2", x.status(), -2);
        x.undo();
        Check.due("-3", x.status(), -3);
        for (int i = 0; i < 7; i++) {
            x.plate(0, 0);
        }
        Check.due("-5", x.status(), -5);
        x.row();
        Check.due("-6", x.status(), -6);
        x.forget();
        x.feed(0, 0, 0, 0, 0);
        x.end(99);
        Check.due("-6 still", x.status(), -6);
        x.pass();
        Check.due("0", x.status(), 0);
    }
}
