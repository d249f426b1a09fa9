/** Promises 6 to 9: feed, end, row, pigeons. */
public final class TapeTest {
    public static void main(String[] args) {
        feed();
        end();
        row();
        noRoom();
        Check.finish();
    }

    private static void feed() {
        StatueRelief x = new StatueRelief();
        for (int i = 1; i <= 20; i++) {
            Check.due("feed", x.feed(-1, 0, 1, Integer.MIN_VALUE, Integer.MAX_VALUE), 20 * i);
        }
        Check.due("more than 400", x.feed(1, 2, 3, 4, 5), -1);
        Check.due("bytes", x.count(7), 400);
        Check.due("it is no refusal", x.status() + x.count(8), 0);
        x.end(381);
        Check.due("19 free are too few", x.feed(1, 2, 3, 4, 5), -1);
        Check.due("bytes", x.count(7), 381);
        x.end(380);
        Check.due("20 free are enough", x.feed(1, 2, 3, 4, 5), 400);
        x.end(0);
        // The highest byte first; 255 is no HOLD, and no LOOK.
        x.feed(0x01020304, 0x05060708, 0x09000140, 0xff0001ff, 0x013f0000);
        Check.due("row", x.row(), 6);
        int[] holds = {1, 3, 5, 7, 9, 1};
        int[] looks = {2, 4, 6, 8, 0, 63};
        for (int m = 0; m < 6; m++) {
            Check.due("HOLD " + m, x.of(m, 0), holds[m]);
            Check.due("LOOK " + m, x.of(m, 1), looks[m]);
        }
        Check.due("pigeons", x.pigeons(), 4);
    }

    private static void end() {
        StatueRelief x = new StatueRelief();
        Check.due("nothing of nothing", x.end(0), 0);
        Check.due("not so many", x.end(1), -1);
        x.feed(0, 0, 0, 0, 0);
        Check.due("all", x.end(20), 20);
        Check.due("more", x.end(21), -1);
        Check.due("below 0", x.end(-1), -1);
        Check.due("bytes", x.count(7), 20);
        Check.due("some", x.end(3), 3);
        Check.due("bytes", x.count(7), 3);
        Check.due("what is gone is gone", x.end(4), -1);
        Check.due("behind what is left", x.feed(0, 0, 0, 0, 0), 23);
        Check.due("status", x.status(), 0);
    }

    private static void row() {
        StatueRelief x = new StatueRelief();
        Check.refused("an empty TAPE", x, x.row(), -6);
        Check.tape(x, new byte[] {9, 63, 0, 1, 10, 1, 1, 64, 1, (byte) 255, (byte) 255, 0, 1, 0, 5});
        Check.due("row", x.row(), 2);
        Check.due("status", x.status(), 0);
        Check.due("pigeons", x.pigeons(), 6);
        Check.due("the TAPE is empty", x.count(7), 0);
        Check.due("LOOK of the second", x.of(1, 1), 0);
        x.pass();
        Check.refused("empty again", x, x.row(), -6);
        Check.due("REFUSED, it leaves the PIGEONS", x.pigeons(), 6);
        Check.due("and what can be undone", x.count(6), 1);
        Check.tape(x, new byte[] {5});
        Check.due("a byte alone", x.row(), 0);
        Check.due("is a PIGEON", x.pigeons(), 1);
        Check.due("nothing can be undone, though nobody came", x.count(6), 0);
        Check.tape(x, new byte[] {5, 5});
        Check.due("one", x.row(), 1);
        Check.due("no PIGEON", x.pigeons(), 0);
    }

    private static void noRoom() {
        StatueRelief x = new StatueRelief();
        byte[] bytes = new byte[400];
        for (int i = 0; i < 400; i++) {
            bytes[i] = (byte) (1 + i % 9);
        }
        Check.tape(x, bytes);
        Check.due("as many as there is room", x.row(), 7);
        Check.due("the rest", x.pigeons(), 193);
        Check.tape(x, new byte[] {1, 1});
        Check.due("no room", x.row(), 0);
        Check.due("it is no refusal", x.status(), 0);
        Check.due("a PIGEON", x.pigeons(), 1);
    }
}
