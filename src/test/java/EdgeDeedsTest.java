/** Terms III, what is done, and promises 6 to 9, 15 to 19: each bound from both sides. */
public final class EdgeDeedsTest {
    private static final int LEAST = Integer.MIN_VALUE;
    private static final int MOST = Integer.MAX_VALUE;

    public static void main(String[] args) {
        feed();
        bytes();
        end();
        row();
        rowHoldsAndLooks();
        pigeons();
        noSuchMan();
        relieve();
        relieveAtHold();
        sneeze();
        pardon();
        rests();
        shakes();
        askedAsItWas();
        lastHour();
        undoEach();
        sixteen();
        endsOfUndo();
        Check.finish();
    }

    /** feed: "Twenty bytes .. how many it has. NONE, if there would be more than 400." */
    private static void feed() {
        StatueRelief x = new StatueRelief();
        for (int i = 1; i <= 20; i++) {
            Check.due("feed", x.feed(0, 0, 0, 0, 0), 20 * i);
        }
        Check.due("420", x.feed(0, 0, 0, 0, 0), -1);
        Check.due("400 still", x.count(7), 400);
        x.end(399);
        Check.due("419", x.feed(0, 0, 0, 0, 0), -1);
        x.end(381);
        Check.due("401", x.feed(0, 0, 0, 0, 0), -1);
        Check.due("381 still", x.count(7), 381);
        x.end(380);
        Check.due("400", x.feed(0, 0, 0, 0, 0), 400);
        Check.due("it is no refusal", x.status() + x.count(8) + x.count(11), 0);
    }

    /** feed: "four of each number, the highest first", numbers below 0, too; "come behind the TAPE". */
    private static void bytes() {
        StatueRelief x = new StatueRelief();
        x.feed(0x01020304, 0x05060708, 0x0901023f, 0xff00ff01, 0x00000000);
        Check.due("six come", x.row(), 6);
        int[] holds = {1, 3, 5, 7, 9, 2};
        int[] looks = {2, 4, 6, 8, 1, 63};
        for (int m = 0; m < 6; m++) {
            Check.due("HOLD " + m, x.of(m, 0), holds[m]);
            Check.due("LOOK " + m, x.of(m, 1), looks[m]);
        }
        Check.due("four do not", x.pigeons(), 4);
        StatueRelief y = new StatueRelief();
        y.feed(LEAST, MOST, -1, 0x80018001, 0x7fffffff);
        Check.due("none of these", y.row(), 0);
        Check.due("ten", y.pigeons(), 10);
        y.feed(0, 0, 0, 0, 0);
        y.end(1);
        y.feed(0x02030405, 0x01010101, 0, 0, 0);
        Check.due("behind a byte 0: 0 2, 3 4, 5 1, 1 1, 1 0", y.row(), 4);
        Check.due("HOLD 3", y.of(0, 0), 3);
        Check.due("LOOK 4", y.of(0, 1), 4);
        Check.due("LOOK 0", y.of(3, 1), 0);
    }

    /** end: "The TAPE has its first n bytes alone: n. NONE, if it has not so many, or n is below 0." */
    private static void end() {
        StatueRelief x = new StatueRelief();
        Check.due("0 of 0", x.end(0), 0);
        Check.due("1 of 0", x.end(1), -1);
        Check.due("-1 of 0", x.end(-1), -1);
        x.feed(0x01010202, 0x03030404, 0, 0, 0);
        Check.due("21 of 20", x.end(21), -1);
        Check.due("far beyond", x.end(MOST), -1);
        Check.due("-1 of 20", x.end(-1), -1);
        Check.due("far below", x.end(LEAST), -1);
        Check.due("20 still", x.count(7), 20);
        Check.due("20 of 20", x.end(20), 20);
        Check.due("4 of 20", x.end(4), 4);
        Check.due("5 of 4", x.end(5), -1);
        Check.due("the first", x.row(), 2);
        Check.due("1 1", x.of(0, 0) + x.of(0, 1), 2);
        Check.due("2 2", x.of(1, 0) + x.of(1, 1), 4);
        x.feed(0, 0, 0, 0, 0);
        Check.due("0 of 20", x.end(0), 0);
        Check.refused("it is empty", x, x.row(), -6);
        Check.due("end() is no refusal", x.count(8), 0);
    }

    /** row: "the TAPE is empty then: how many MEN came. -6 the TAPE is empty." */
    private static void row() {
        StatueRelief x = new StatueRelief();
        Check.refused("an empty TAPE", x, x.row(), -6);
        Check.tape(x, new byte[] {1});
        Check.due("a byte", x.row(), 0);
        Check.due("it is no refusal", x.status(), 0);
        Check.due("the TAPE is empty then", x.count(7), 0);
        Check.refused("an empty TAPE again", x, x.row(), -6);
        Check.tape(x, new byte[] {1, 1});
        Check.due("two", x.row(), 1);
        Check.tape(x, new byte[] {2, 2, 3});
        Check.due("three", x.row(), 1);
        Check.due("one within which the TAPE ends", x.pigeons(), 1);
        Check.due("2 MEN", x.count(0), 2);
        byte[] all = new byte[400];
        java.util.Arrays.fill(all, (byte) 5);
        Check.tape(x, all);
        Check.due("as many as there is room for", x.row(), 5);
        Check.due("195 there is no room for", x.pigeons(), 195);
        Check.due("7 MEN", x.count(0), 7);
        Check.tape(x, new byte[] {1, 1});
        Check.due("no room at all", x.row(), 0);
        Check.due("it is no refusal", x.status() + x.count(11), 0);
    }

    /** "one that can't be .. is a PIGEON: nothing": by HOLD, by LOOK, and those behind it come. */
    private static void rowHoldsAndLooks() {
        byte[][] pairs = {{0, 5}, {1, 5}, {9, 5}, {10, 5}, {5, 0}, {5, 63}, {5, 64}, {(byte) 255, 5}, {5, (byte) 255},
            {(byte) 129, 5}, {5, (byte) 128}};
        int[] comes = {0, 1, 1, 0, 1, 1, 0, 0, 0, 0, 0};
        for (int i = 0; i < pairs.length; i++) {
            StatueRelief x = new StatueRelief();
            Check.tape(x, new byte[] {pairs[i][0], pairs[i][1], 7, 7});
            Check.due("pair " + i, x.row(), 1 + comes[i]);
            Check.due("PIGEONS of pair " + i, x.pigeons(), 1 - comes[i]);
            Check.due("who comes behind it", x.of(comes[i], 0), 7);
        }
    }

    /** pigeons: "How many PIGEONS the latest row() had that was not REFUSED (0 ahead of any)." */
    private static void pigeons() {
        StatueRelief x = new StatueRelief();
        Check.due("ahead of any", x.pigeons(), 0);
        x.row();
        Check.due("ahead of any that was not REFUSED", x.pigeons(), 0);
        Check.tape(x, new byte[] {0, 0, 0, 0, 0});
        x.row();
        Check.due("three", x.pigeons(), 3);
        x.row();
        Check.due("a REFUSED one leaves them", x.pigeons(), 3);
        Check.tape(x, new byte[] {1, 1});
        x.row();
        Check.due("the latest had none", x.pigeons(), 0);
        StatueRelief y = new StatueRelief();
        Check.tape(y, new byte[400]);
        y.row();
        Check.due("200 at most", y.pigeons(), 200);
    }

    /** relieve, sneeze, pardon: "-2" there is no such MAN. */
    private static void noSuchMan() {
        for (StatueRelief x : new StatueRelief[] {new StatueRelief(), Check.men(1, 1), Check.men(1, 1, 1, 1, 1, 1)}) {
            int men = x.count(0);
            for (int man : new int[] {-1, men, 7, LEAST, MOST}) {
                Check.refused("relieve", x, x.relieve(man), -2);
                Check.refused("sneeze", x, x.sneeze(man), -2);
                Check.refused("pardon", x, x.pardon(man), -2);
            }
            Check.due("nothing is done", x.count(6) + x.count(14), 0);
            Check.due("by -2", x.count(9), 15);
        }
    }

    /** "To RELIEVE: a MAN who is not UP, not CASHIERED, not BARRED .. is UP in place of who was, HELD is 0." */
    private static void relieve() {
        StatueRelief x = Check.men(5, 0, 5, 7);
        Check.due("nobody was", x.relieve(0), 0);
        x.pass();
        Check.refused("he is UP", x, x.relieve(0), -3);
        Check.due("HELD still", x.count(3), 1);
        Check.due("another one", x.relieve(1), 3);
        Check.due("HELD 0", x.count(3), 0);
        Check.due("UP", x.count(2), 1);
        x.sneeze(0);
        Check.refused("CASHIERED", x, x.relieve(0), -3);
        x.pardon(0);
        Check.due("pardoned", x.relieve(0), 3);
        Check.inForce(x, "bars if man = 1");
        Check.refused("BARRED", x, x.relieve(1), -3);
        Check.due("UP still", x.count(2), 0);
        x.force(-1);
        Check.due("not BARRED", x.relieve(1), 3);
    }

    /** "less TIRED than his HOLD". */
    private static void relieveAtHold() {
        for (int hold = 1; hold <= 9; hold++) {
            StatueRelief x = Check.men(hold, 0, 9, 0);
            Check.inForce(x, "rests 0");
            x.relieve(0);
            Check.passes(x, hold - 1);
            x.relieve(1);
            Check.due("TIRED " + (hold - 1) + " of " + hold, x.relieve(0), 0);
            x.pass();
            x.relieve(1);
            Check.due("TIRED", x.of(0, 2), hold);
            Check.refused("as TIRED as his HOLD " + hold, x, x.relieve(0), -3);
            Check.due("UP still", x.count(2), 1);
        }
    }

    /** "To SNEEZE: one who is not CASHIERED is; if he was UP, nobody is, HELD is 0"; "how many are not CASHIERED then". */
    private static void sneeze() {
        StatueRelief x = Check.men(5, 0, 5, 7, 5, 7);
        x.relieve(0);
        x.pass();
        Check.due("one who is not UP", x.sneeze(2), 2);
        Check.due("UP still", x.count(2), 0);
        Check.due("HELD still", x.count(3), 1);
        Check.due("who is UP", x.sneeze(0), 1);
        Check.due("nobody is", x.count(2), -1);
        Check.due("HELD 0", x.count(3), 0);
        Check.due("the last", x.sneeze(1), 0);
        for (int man = 0; man < 3; man++) {
            Check.refused("he is", x, x.sneeze(man), -3);
        }
        Check.due("none is left", x.count(1), 0);
    }

    /** "To PARDON: one who is CASHIERED is not any more, TIRED 0"; "-3 he is not". */
    private static void pardon() {
        StatueRelief x = Check.men(5, 0, 5, 7);
        Check.refused("nobody is CASHIERED", x, x.pardon(0), -3);
        x.relieve(0);
        Check.passes(x, 6);
        Check.due("he SHOOK", x.of(0, 3), 1);
        Check.due("TIRED 6", x.of(0, 2), 6);
        x.sneeze(1);
        Check.due("one", x.pardon(0), 1);
        Check.due("TIRED 0", x.of(0, 2), 0);
        Check.due("not UP", x.count(2), -1);
        Check.due("two", x.pardon(1), 2);
        Check.refused("he is not any more", x, x.pardon(0), -3);
        Check.refused("nor he", x, x.pardon(1), -3);
    }

    /** "all others less by what each RESTS (0 at least), CASHIERED or not". */
    private static void rests() {
        StatueRelief x = Check.men(9, 0, 9, 0, 9, 0);
        Check.inForce(x, "tires 3;rests 2 if man = 0;rests 9 if man = 2");
        x.relieve(0);
        x.pass();
        x.relieve(1);
        x.pass();
        Check.due("3 less 2", x.of(0, 2), 1);
        Check.due("TIRED 3", x.of(1, 2), 3);
        Check.due("0 at least", x.of(2, 2), 0);
        x.pass();
        Check.due("0 at least, of 1", x.of(0, 2), 0);
        x.sneeze(1);
        x.pass();
        Check.due("CASHIERED, 6 less 1", x.of(1, 2), 5);
        Check.inForce(x, "rests 0");
        x.pass();
        Check.due("by 0", x.of(1, 2), 5);
    }

    /** "he SHAKES, if he is more TIRED than his HOLD then: he is CASHIERED, nobody is UP, HELD is 0". */
    private static void shakes() {
        for (int hold = 1; hold <= 9; hold++) {
            StatueRelief x = Check.men(hold, 0);
            x.relieve(0);
            for (int i = 0; i < hold; i++) {
                Check.due("TIRED " + i + " of " + hold, x.pass(), 0);
            }
            Check.due("as TIRED as his HOLD", x.of(0, 2), hold);
            Check.due("UP still", x.count(2), 0);
            Check.due("HELD", x.count(3), hold);
            Check.due("one more", x.pass(), 1);
            Check.due("TIRED", x.of(0, 2), hold + 1);
            Check.due("CASHIERED", x.of(0, 3), 1);
            Check.due("nobody is UP", x.count(2), -1);
            Check.due("HELD", x.count(3), 0);
            Check.due("HOUR", x.count(14), hold + 1);
        }
        Check.due("an HOUR of nobody", new StatueRelief().pass(), 0);
    }

    /** "all asked as it was ahead". */
    private static void askedAsItWas() {
        StatueRelief x = Check.men(9, 0, 9, 0);
        Check.inForce(x, "tires 1 + held + hour + tired;rests held + hour");
        x.relieve(0);
        x.pass();
        Check.due("1", x.of(0, 2), 1);
        x.relieve(1);
        x.pass();
        Check.due("HELD 0, HOUR 1, TIRED 0: 2", x.of(1, 2), 2);
        Check.due("HELD 0, HOUR 1: 1 less", x.of(0, 2), 0);
        x.pass();
        Check.due("HELD 1, HOUR 2, TIRED 2: 6 more", x.of(1, 2), 8);
    }

    /** "it is the next HOUR (at 999 it can't be)". */
    private static void lastHour() {
        StatueRelief x = Check.men(9, 0, 9, 0);
        x.terms(0, 997);
        x.relieve(0);
        Check.due("998", x.pass() * 1000 + x.count(14), 998);
        Check.due("999", x.pass() * 1000 + x.count(14), 999);
        Check.refused("no more", x, x.pass(), -3);
        Check.due("HOUR 999", x.count(14), 999);
        Check.due("TIRED 2", x.of(0, 2), 2);
        Check.due("HELD 2", x.count(3), 2);
        Check.due("what can be undone", x.count(6), 3);
        Check.due("a relief still can be", x.relieve(1), 0);
        Check.due("and a sneeze", x.sneeze(0), 1);
        Check.due("and a pardon", x.pardon(0), 2);
        x.undo();
        x.undo();
        x.undo();
        Check.due("the pass", x.undo(), 3);
        Check.due("HOUR 998", x.count(14), 998);
        Check.due("it can be again", x.pass(), 0);
    }

    /** undo: "who is UP, HELD, how TIRED all are, who is CASHIERED, HOUR are as they were: 0 .. 3". */
    private static void undoEach() {
        StatueRelief x = Check.men(2, 0, 5, 1);
        x.relieve(0);
        x.pass();
        x.pass();
        x.pass();
        Check.due("he SHOOK", x.of(0, 3) * 10 + x.of(0, 2), 13);
        Check.due("the pass", x.undo(), 3);
        Check.due("not CASHIERED", x.of(0, 3), 0);
        Check.due("TIRED 2", x.of(0, 2), 2);
        Check.due("UP", x.count(2), 0);
        Check.due("HELD 2", x.count(3), 2);
        Check.due("HOUR 2", x.count(14), 2);
        x.relieve(1);
        Check.due("the relief", x.undo(), 0);
        Check.due("UP, HELD 2", x.count(2) * 10 + x.count(3), 2);
        x.sneeze(0);
        x.pardon(0);
        Check.due("the pardon", x.undo(), 2);
        Check.due("CASHIERED, TIRED 2", x.of(0, 3) * 10 + x.of(0, 2), 12);
        Check.due("the sneeze", x.undo(), 1);
        Check.due("UP, HELD 2", x.count(2) * 10 + x.count(3), 2);
        Check.due("status", x.status(), 0);
    }

    /** "16 are kept". */
    private static void sixteen() {
        StatueRelief x = Check.men(9, 0);
        Check.refused("none ahead of any", x, x.undo(), -3);
        for (int i = 1; i <= 16; i++) {
            x.pass();
            Check.due("can be undone", x.count(6), i);
        }
        x.pass();
        Check.due("17", x.count(6), 16);
        Check.passes(x, 8);
        Check.due("25", x.count(6), 16);
        for (int i = 1; i <= 16; i++) {
            Check.due("undo", x.undo(), 3);
            Check.due("HOUR", x.count(14), 25 - i);
            Check.due("can be undone", x.count(6), 16 - i);
        }
        Check.refused("the 17th", x, x.undo(), -3);
        Check.due("HOUR 9", x.count(14), 9);
    }

    /** "(nothing that was ahead of a man(), terms(), row(), back() that was not REFUSED can be undone)". */
    private static void endsOfUndo() {
        for (int call = 0; call < 8; call++) {
            StatueRelief x = Check.men(9, 0);
            x.image(0);
            x.pass();
            switch (call) {
                case 0: x.man(1, 1); break;
                case 1: x.terms(3, 2); break;
                case 2: Check.tape(x, new byte[] {0}); x.row(); break;
                case 3: x.back(0); break;
                case 4: x.man(0, 1); break;
                case 5: x.terms(3, 100); break;
                case 6: x.row(); break;
                default: x.back(1); break;
            }
            Check.due("call " + call, x.undo(), call < 4 ? -3 : 3);
            x.pass();
            Check.due("what comes behind it can be", x.undo(), 3);
        }
    }
}
