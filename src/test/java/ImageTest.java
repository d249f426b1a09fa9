/** Promises 36 and 37: image, back. */
public final class ImageTest {
    public static void main(String[] args) {
        refusals();
        keeps();
        keepsNot();
        laws();
        otherLaws();
        stay();
        Check.finish();
    }

    private static void refusals() {
        StatueRelief x = new StatueRelief();
        Check.refused("image(2)", x, x.image(2), -1);
        Check.refused("image(-1)", x, x.image(-1), -1);
        Check.refused("back(2)", x, x.back(2), -1);
        Check.refused("back(-1)", x, x.back(-1), -1);
        Check.refused("back(0), not kept", x, x.back(0), -2);
        Check.refused("back(1), not kept", x, x.back(1), -2);
        Check.due("image(1)", x.image(1), 0);
        Check.due("status", x.status(), 0);
        Check.refused("back(0), still not kept", x, x.back(0), -2);
        Check.due("back(1)", x.back(1), 0);
        Check.due("status", x.status(), 0);
    }

    private static StatueRelief busy() {
        StatueRelief x = new StatueRelief();
        x.man(5, 1);
        x.man(4, 6);
        x.relieve(0);
        x.pass();
        x.sneeze(1);
        x.terms(1, 7);
        x.terms(2, 8);
        x.terms(3, 9);
        x.plate(0, 1);
        x.plate(2, 0);
        Check.inForce(x, "tires 3");
        x.pass();
        return x;
    }

    private static void dueBusy(StatueRelief x) {
        int[] counts = {2, 1, 0, 2, 2, 1};
        for (int what = 0; what < counts.length; what++) {
            Check.due("count(" + what + ")", x.count(what), counts[what]);
        }
        int[] terms = {0, 2, 7, 8, 9};
        for (int what = 0; what < terms.length; what++) {
            Check.due("count(" + (13 + what) + ")", x.count(13 + what), terms[what]);
        }
        Check.due("TIRED", x.of(0, 2), 4);
        Check.due("HOLD", x.of(1, 0), 4);
        Check.due("LOOK", x.of(1, 1), 6);
        Check.due("CASHIERED", x.of(1, 3), 1);
        Check.due("the LAW tells", x.of(0, 5), 3);
        Check.due("the PLATES tell", x.canBe(), 1);
    }

    private static void keeps() {
        StatueRelief x = busy();
        x.image(0);
        Check.due("image() leaves what can be undone", x.count(6), 1);
        x.man(1, 1);
        x.pardon(1);
        x.relieve(2);
        x.pass();
        x.terms(0, 500);
        x.terms(1, 1);
        x.terms(2, 1);
        x.terms(3, 1);
        x.forget();
        x.plate(5, 1);
        Check.inForce(x, "tires 1");
        x.force(-1);
        x.pass();
        Check.due("back", x.back(0), 0);
        dueBusy(x);
        Check.due("nothing can be undone", x.count(6), 0);
        x.man(9, 9);
        Check.due("the next MAN", x.count(0), 3);
        Check.due("is as new", x.of(2, 2) + x.of(2, 3), 0);
        x.pass();
        x.back(0);
        dueBusy(x);
    }

    private static void keepsNot() {
        StatueRelief x = busy();
        x.image(1);
        Check.orders(x, "pass;sneeze 1");
        Check.law(x, "bars bars");
        Check.tape(x, new byte[] {5, 5, 0, 0, 5});
        x.row();
        x.years(11, 7);
        int tired = x.drawn(0, 0);
        int pardoned = x.drawn(1, 1);
        Check.tape(x, "bars");
        x.relieve(9);
        x.back(1);
        Check.due("the TAPE", x.count(7), 4);
        Check.due("FAULT", x.fault(), 5);
        Check.due("PIGEONS", x.pigeons(), 2);
        Check.due("where ORDERS stopped", x.stopped(), 1);
        Check.due("the latest YEARS", x.drawn(0, 0), tired);
        Check.due("the latest YEARS", x.drawn(1, 1), pardoned);
        Check.due("how many were REFUSED by -2", x.count(9), 1);
        Check.due("how many were REFUSED by -3", x.count(10), 1);
        Check.due("how many were REFUSED by -6", x.count(12), 1);
        dueBusy(x);
    }

    private static void laws() {
        StatueRelief x = new StatueRelief();
        x.man(9, 9);
        x.image(0);
        Check.inForce(x, "tires 2");
        x.image(1);
        x.back(0);
        Check.due("no LAW", x.count(5), 0);
        Check.due("none in FORCE", x.count(13), -1);
        Check.due("another LAW 0", Check.law(x, "tires 3;tires 4 if 1 = 2"), 0);
        x.force(0);
        Check.due("it tells", x.of(0, 5), 3);
        x.back(1);
        Check.due("that of the IMAGE tells", x.of(0, 5), 2);
        Check.due("one behind it", Check.law(x, "tires 5"), 1);
        for (int i = 0; i < 4; i++) {
            Check.law(x, "tires 6 if man = 0 and hour < 900");
        }
        x.force(5);
        x.image(0);
        x.back(1);
        x.back(0);
        Check.due("six", x.count(5), 6);
        Check.due("the last tells", x.of(0, 5), 6);
        x.force(1);
        Check.due("the second tells", x.of(0, 5), 5);
    }

    /** LAWS of other kinds and lengths take one another's places. */
    private static void otherLaws() {
        StatueRelief x = new StatueRelief();
        x.man(9, 9);
        x.man(9, 15);
        x.image(0);
        Check.inForce(x, "bars if hour < 5 and man = 1;notices 30 + man;rests 4 if 1 = 1;tires 5");
        x.image(1);
        x.back(0);
        Check.inForce(x, "rests 7 - 1;tires 2 if 1 = 2");
        Check.due("RESTS", x.of(0, 6), 6);
        Check.due("TIRES", x.of(0, 5), 1);
        Check.due("NOTICED", x.two(1, 0, 1), 2);
        x.image(0);
        for (int i = 0; i < 2; i++) {
            x.back(1);
            Check.due("BARRED", x.of(1, 7), 1);
            Check.due("not BARRED", x.of(0, 7), 0);
            Check.due("NOTICED", x.two(1, 0, 1), 31);
            Check.due("RESTS", x.of(0, 6), 4);
            Check.due("TIRES", x.of(0, 5), 5);
            x.back(0);
            Check.due("BARRED", x.of(1, 7), 0);
            Check.due("NOTICED", x.two(1, 0, 1), 2);
            Check.due("RESTS", x.of(0, 6), 6);
            Check.due("TIRES", x.of(0, 5), 1);
        }
    }

    private static void stay() {
        StatueRelief x = new StatueRelief();
        x.image(0);
        x.man(1, 1);
        x.image(1);
        x.man(2, 2);
        x.back(0);
        Check.due("nobody", x.count(0), 0);
        x.back(1);
        Check.due("one", x.count(0), 1);
        x.back(1);
        Check.due("one again", x.count(0), 1);
        x.man(3, 3);
        x.image(0);
        x.back(1);
        x.back(0);
        Check.due("taken anew", x.count(0), 2);
        Check.due("HOLD", x.of(1, 0), 3);
    }
}
