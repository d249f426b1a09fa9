/** Promises 26 to 31: groups, likest, plate, forget, canBe, take. */
public final class LooksTest {
    public static void main(String[] args) {
        groups();
        likest();
        plates();
        take();
        Check.finish();
    }

    private static StatueRelief men(int... looks) {
        StatueRelief x = new StatueRelief();
        for (int look : looks) {
            x.man(1, look);
        }
        return x;
    }

    private static void groups() {
        StatueRelief x = men(0, 3, 63, 15, 0);
        int[][] by = {{4, 17, 2, 4, 8, 17}, {4, 17, 2, 4, 8, 17}, {1, 31, 31, 31, 31, 31}, {1, 31, 31, 31, 31, 31}};
        for (int h = 0; h < by.length; h++) {
            for (int man = -1; man < 5; man++) {
                Check.due("groups(" + h + ", " + man + ")", x.groups(h, man), by[h][man + 1]);
            }
        }
        Check.due("h 6", x.groups(6, -1), 1);
        Check.due("h 7", x.groups(7, -1), -1);
        Check.due("h -1", x.groups(-1, 0), -1);
        Check.due("no such MAN", x.groups(1, 5), -1);
        Check.due("-2", x.groups(1, -2), -1);
        x.sneeze(1);
        Check.due("CASHIERED ones are of one, too", x.groups(2, 0), 31);
        Check.due("a row from the last to the first", men(63, 31, 15, 7, 3, 1, 0).groups(1, 6), 127);
        Check.due("in any order", men(63, 0, 31, 1, 15, 3, 7).groups(1, 1), 127);
        Check.due("two", men(63, 0, 31, 1, 15, 3).groups(1, -1), 2);
    }

    private static void likest() {
        StatueRelief x = men(0);
        Check.due("no other one", x.likest(0), -1);
        x.man(1, 63);
        Check.due("the other one", x.likest(0), 1);
        x.man(1, 1);
        x.man(1, 2);
        Check.due("the lowest", x.likest(0), 2);
        Check.due("of the last", x.likest(3), 0);
        Check.due("of 1", x.likest(1), 2);
        x.sneeze(2);
        Check.due("CASHIERED or not", x.likest(0), 2);
        Check.due("no such MAN", x.likest(4), -1);
        Check.due("-1", x.likest(-1), -1);
    }

    private static void plates() {
        StatueRelief x = men(5, 7, 48, 0);
        Check.due("all", x.canBe(), 15);
        Check.refused("FEATURE 6", x, x.plate(6, 0), -1);
        Check.refused("FEATURE -1", x, x.plate(-1, 0), -1);
        Check.refused("is 2", x, x.plate(0, 2), -1);
        Check.refused("is -1", x, x.plate(0, -1), -1);
        x.pass();
        Check.due("a PLATE", x.plate(0, 1), 1);
        Check.due("status", x.status(), 0);
        Check.due("who has it", x.canBe(), 3);
        Check.due("another one", x.plate(1, 0), 2);
        Check.due("who has not", x.canBe(), 1);
        x.sneeze(0);
        Check.due("CASHIERED or not", x.canBe(), 1);
        Check.due("the same once more", x.plate(0, 1), 3);
        Check.due("as it was", x.canBe(), 1);
        Check.due("one against it", x.plate(0, 0), 4);
        Check.due("it can be none", x.canBe(), 0);
        Check.due("take(0)", x.take(0), -1);
        Check.due("take(1)", x.take(1), -1);
        x.plate(5, 1);
        Check.due("the sixth", x.plate(4, 1), 6);
        Check.refused("the seventh", x, x.plate(4, 1), -5);
        Check.refused("the seventh, one that can't be", x, x.plate(6, 1), -1);
        Check.due("PLATES", x.count(4), 6);
        Check.due("forget", x.forget(), 6);
        Check.due("it is no call of which status() tells", x.status(), -1);
        Check.due("PLATES", x.count(4), 0);
        Check.due("all", x.canBe(), 15);
        Check.due("forget again", x.forget(), 0);
        Check.due("what can be undone is left", x.count(6), 2);
        x.plate(0, 0);
        Check.due("who has not", x.canBe(), 12);
        x.man(1, 8);
        Check.due("a new one", x.canBe(), 28);
    }

    private static void take() {
        StatueRelief x = men();
        Check.due("it can be none", x.take(0), -1);
        x = men(1);
        Check.due("one alone: the lowest", x.take(0), 0);
        Check.due("left", x.take(1), 1);
        x = men(1, 3, 33, 43, 11);
        Check.due("by 1: 3 of 5", x.take(0), 1);
        Check.due("left", x.take(1), 3);
        x.plate(1, 1);
        Check.due("of 3, 43, 11 by 3: 2 of 3", x.take(0), 3);
        Check.due("left", x.take(1), 2);
        x.plate(3, 1);
        Check.due("of 43, 11 by 5", x.take(0), 5);
        Check.due("left", x.take(1), 1);
        Check.due("what 2", x.take(2), -1);
        Check.due("what -1", x.take(-1), -1);
        x = men(0, 0, 0, 1, 3);
        Check.due("those who have not are more: 3 by 0, 4 by 1", x.take(0), 0);
        Check.due("left", x.take(1), 3);
    }
}
