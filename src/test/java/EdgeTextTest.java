/** Terms II, what both languages share: TAPE, TOKENS, the bounds of a TEXT, FAULT, BROKEN. */
public final class EdgeTextTest {
    private static final String MILLIARD = "1000*1000*1000";

    public static void main(String[] args) {
        tape();
        tokens();
        blanks();
        clauses();
        numbers();
        parts();
        oneTextBehindAnother();
        brackets();
        bracketsOfOneKind();
        faultAtTheEnd();
        beyond();
        beyondByWrapping();
        cutTowards0();
        dividedBy0();
        compared();
        orAnd();
        Check.finish();
    }

    private static void good(boolean orders, String text) {
        StatueRelief x = Check.men(9, 0);
        int answer = orders ? Check.orders(x, text) : Check.law(x, text);
        Check.so("read: " + text, answer != -6);
        Check.due("no FAULT: " + text, x.fault(), -1);
    }

    private static void fault(boolean orders, String text, int place) {
        StatueRelief x = Check.men(9, 0);
        Check.refused("not read: " + text, x, orders ? Check.orders(x, text) : Check.law(x, text), -6);
        Check.due("FAULT of " + text, x.fault(), place);
        Check.due("the TAPE is empty", x.count(7), 0);
        Check.due("no LAW, no HOUR", x.count(5) + x.count(14) + x.count(6), 0);
    }

    /** By what MAN 0 TIRES, 5 if the SUM is BROKEN (it is to be 0 .. 9, and not 5). */
    private static void tires(String sum, int by) {
        StatueRelief x = Check.men(9, 0);
        Check.inForce(x, "tires 5;tires " + sum);
        Check.due("tires " + sum, x.of(0, 5), by);
    }

    /** Whether a TEST is so (1), not so (0), or BROKEN (-1). */
    private static void test(String test, int is) {
        StatueRelief x = Check.men(9, 0);
        Check.inForce(x, "tires 5;tires 0 if not (" + test + ");tires 1 if " + test);
        Check.due("if " + test, x.of(0, 5), is == -1 ? 5 : is);
        Check.due("by ORDERS: if " + test, Check.orders(x, "pass if " + test) - Check.orders(x, "pass if not(" + test + ")"),
                is == -1 ? 0 : is == 1 ? 1 : -1);
    }

    /** "TEXTS are on a TAPE of at most 400 bytes". */
    private static void tape() {
        good(false, "bars" + Check.times(396, " "));
        good(false, Check.times(396, " ") + "bars");
        good(true, Check.times(396, " ") + "pass");
        fault(false, Check.times(400, " "), 400);
        fault(true, Check.times(400, " "), 400);
        fault(false, Check.times(399, " ") + "b", 399);
        fault(true, Check.times(395, " ") + "pass;", 400);
        StatueRelief x = new StatueRelief();
        Check.tape(x, Check.times(396, " ") + "bars");
        Check.due("400 bytes", x.count(7), 400);
        Check.due("no more", x.feed(0, 0, 0, 0, 0), -1);
        Check.due("they are as they were", x.law(), 0);
    }

    /** "TOKENS: longest rows of letters a .. z, of digits, single other bytes". */
    private static void tokens() {
        fault(false, "barsa", 0);
        fault(false, "barsz", 0);
        fault(false, "bars`", 4);
        fault(false, "bars{", 4);
        fault(false, "`bars", 0);
        fault(false, "barsA", 4);
        fault(false, "BARS", 0);
        fault(false, (char) ('b' + 128) + "ars", 0);
        fault(false, "bars" + (char) 255, 4);
        fault(false, "bars" + (char) 0, 4);
        fault(true, "passz", 0);
        fault(true, "pass" + (char) 0, 4);
        tires("0", 0);
        tires("9", 9);
        fault(false, "tires 1:", 7);
        fault(false, "tires :", 6);
        fault(false, "tires 1.5", 7);
        fault(false, "tires /1", 6);
        good(false, "tires1if1=1or1=1");
        good(false, "bars;rests2*man");
        good(true, "relieve0times2if1<1and1>1");
        fault(false, "tires man1", 9);
        fault(false, "tires manhold", 6);
        fault(false, "tires 1 ifman=1", 8);
        fault(false, "bars if notman=1", 8);
    }

    /** "any blanks (32) between": none, one, many; within a TOKEN they part it; no other byte is one. */
    private static void blanks() {
        good(false, "   tires   1   +   [   2   ]   if   1   =   1   ;   bars   ");
        good(true, "   relieve   0   times   2   if   (   tired   0   <   1   )   ;   pass   ");
        fault(false, "ba rs", 0);
        fault(false, "tires 1 0", 8);
        fault(false, "bars if 1 = = 1", 12);
        fault(false, "bars" + (char) 31, 4);
        fault(false, "bars!", 4);
        fault(false, "\tbars", 0);
        fault(false, "bars\n", 4);
        fault(false, "bars" + (char) 160, 4);
        fault(false, "", 0);
        fault(true, "", 0);
        fault(false, " ", 1);
        fault(true, "  ", 2);
    }

    /** "CLAUSE {";" CLAUSE}, 12 at most (FAULT at the 13th's first TOKEN)". */
    private static void clauses() {
        good(false, "bars" + Check.times(11, ";bars"));
        fault(false, "bars" + Check.times(12, ";bars"), 60);
        fault(false, "bars" + Check.times(11, ";bars") + ";   bars", 63);
        fault(false, "bars" + Check.times(11, ";bars") + ";", 60);
        fault(false, "bars" + Check.times(11, ";bars") + ";  ", 62);
        fault(false, "bars" + Check.times(11, ";bars") + ";;", 60);
        good(true, "pass" + Check.times(11, ";pass"));
        fault(true, "pass" + Check.times(12, ";pass"), 60);
        fault(true, "pass" + Check.times(11, ";pass") + "; pass", 61);
        fault(true, "pass" + Check.times(11, ";pass") + ";", 60);
        fault(false, ";bars", 0);
        fault(false, "bars;", 5);
        fault(false, "bars;;bars", 5);
        fault(true, "pass;;pass", 5);
        StatueRelief x = Check.men(9, 0);
        Check.inForce(x, "bars if 1=2" + Check.times(10, ";bars if 1=2") + ";tires 7");
        Check.due("the twelfth tells", x.of(0, 5), 7);
        Check.due("all twelve are run", Check.orders(x, "pass" + Check.times(11, ";pass")), 12);
        Check.due("HOUR", x.count(14), 12);
    }

    /** "NUMBER (to 1,000)". */
    private static void numbers() {
        tires("1000/1000", 1);
        tires("1000-999", 1);
        fault(false, "tires 1001", 6);
        fault(false, "bars if 1 = 1001", 12);
        fault(true, "relieve 1001", 8);
        good(true, "relieve 1000");
        good(false, "tires 01000");
        tires("0000000000000000000000000000000000000007", 7);
        fault(false, "tires 01001", 6);
        fault(false, "tires 10000", 6);
        fault(false, "tires 2147483648", 6);
        fault(false, "tires 4294967297", 6);
        fault(false, "tires 18446744073709551617", 6);
        fault(false, "tires " + Check.times(390, "9"), 6);
        tires(Check.times(380, "0"), 0);
    }

    /** "50 PARTS that are NUMBERS and words (FAULT at the 51st)": in the whole TEXT; brackets are none. */
    private static void parts() {
        String fifty = "1" + Check.times(49, "+1");
        tires(Check.times(24, "1-1+") + "3", 3);
        good(false, "tires " + fifty);
        fault(false, "tires " + fifty + "+1", 106);
        fault(false, "tires " + fifty + "+man", 106);
        fault(false, "tires " + fifty + "+", 106);
        fault(false, "tires " + fifty + "+[1]", 107);
        good(false, "tires man" + Check.times(49, "+man"));
        fault(false, "tires man" + Check.times(50, "+man"), 206);
        good(false, "tires [1]" + Check.times(49, "+[1]"));
        fault(false, "tires [1]" + Check.times(50, "+[1]"), 207);
        good(false, "tires " + fifty + ";bars");
        fault(false, "tires " + fifty + ";bars if 1=1", 114);
        good(false, "bars if 1=1" + Check.times(24, "or 1=1"));
        fault(false, "bars if 1=1" + Check.times(25, "or 1=1"), 158);
        fault(false, "tires 1 if 1=1" + Check.times(24, "or 1=1"), 157);
        good(true, "pass if 1=1" + Check.times(24, "or 1=1"));
        fault(true, "pass if 1=1" + Check.times(25, "or 1=1"), 158);
    }

    /** The bounds are those of one TEXT, however many were read ahead of it. */
    private static void oneTextBehindAnother() {
        StatueRelief x = Check.men(9, 0);
        String parts = "1" + Check.times(47, "+1") + " if [[[[[[[[1]]]]]]]]=1";
        for (int i = 0; i < 9; i++) {
            Check.due("ORDERS of 50 PARTS, " + i, Check.orders(x, "pass if 1=1" + Check.times(24, "or 1=1")), 1);
            Check.due("12 CLAUSES, " + i, Check.orders(x, "pass" + Check.times(11, ";pass")), 12);
            Check.refused("a LAW with 51, " + i, x, Check.law(x, "tires " + parts + "+1"), -6);
            Check.refused("13 CLAUSES, " + i, x, Check.law(x, "bars" + Check.times(12, ";bars")), -6);
        }
        for (int i = 0; i < 6; i++) {
            Check.due("a LAW of 50 PARTS", Check.law(x, "tires " + parts), i);
        }
    }

    /** "8 brackets of both kinds within one another (FAULT at the 9th)". */
    private static void brackets() {
        for (int round = 0; round <= 8; round++) {
            String open = Check.times(round, "(") + Check.times(8 - round, "[");
            String close = Check.times(8 - round, "]") + "=1" + Check.times(round, ")");
            good(false, "bars if " + open + "1" + close);
            good(true, "pass if " + open + "1" + close);
            fault(false, "bars if " + open + "[1", 16);
            fault(true, "pass if " + open + "[1", 16);
        }
        fault(false, "bars if " + Check.times(9, "(") + "1=1", 16);
        fault(true, "pass if " + Check.times(9, "("), 16);
        fault(false, "tires " + Check.times(9, "["), 14);
        fault(true, "relieve " + Check.times(9, "["), 16);
    }

    /** Brackets that are closed are not within one another with those behind them. */
    private static void bracketsOfOneKind() {
        String eight = Check.times(8, "[") + "1" + Check.times(8, "]");
        good(false, "tires " + eight + "+" + eight + "*" + eight + " if " + eight + "=" + eight);
        good(false, "bars if (((((((1=[1]))))))) and ((((((([1]=1)))))))");
        fault(false, "tires " + eight + "+" + Check.times(9, "["), 6 + 17 + 1 + 8);
        String round = Check.times(8, "(") + "1=1" + Check.times(8, ")");
        good(false, "bars if " + round + " and " + round + " or not " + round);
        fault(false, "bars if " + round + " and " + Check.times(9, "("), 8 + 19 + 5 + 8);
    }

    /** "FAULT: the first TOKEN that can't go on there (the end's: the TEXT's length)". */
    private static void faultAtTheEnd() {
        String[] halves = {"tires", "tires 1+", "tires [1", "tires 1 if", "bars if 1", "bars if 1=", "bars if (1=1",
            "bars if not", "bars if 1=1 and", "bars if 1=1 or", "bars;"};
        for (String half : halves) {
            fault(false, half, half.length());
            fault(false, half + "   ", half.length() + 3);
        }
        for (String half : new String[] {"relieve", "pass times", "pass if", "pass if tired", "sneeze [", "pass;"}) {
            fault(true, half, half.length());
            fault(true, half + " ", half.length() + 1);
        }
    }

    /** "Beyond 1,000,000,000 either way .. a SUM, a TEST is BROKEN": at it, it is not. */
    private static void beyond() {
        test(MILLIARD + "=" + MILLIARD, 1);
        test("0-" + MILLIARD + "=0-" + MILLIARD, 1);
        test(MILLIARD + "+1>0", -1);
        test("0-" + MILLIARD + "-1<0", -1);
        test("0<" + MILLIARD + "+1", -1);
        test("0>0-" + MILLIARD + "-1", -1);
        test(MILLIARD + "-0+0=" + MILLIARD, 1);
        test(MILLIARD + "-[0-1]>0", -1);
        test("0-" + MILLIARD + "+[0-1]<0", -1);
        // 1001 times 999,001 is 1,000,000,001, and 1,000 times 1,000,000 is just within.
        test("[7*11*13]*[999*1000+1]>0", -1);
        test("[0-7*11*13]*[999*1000+1]<0", -1);
        test("[0-1000]*1000*1000=0-" + MILLIARD, 1);
        tires(MILLIARD + "/[1000*1000]/500", 2);
        tires(MILLIARD + "+1-" + MILLIARD, 5);
        tires("[" + MILLIARD + "+1]*0", 5);
        tires("0-" + MILLIARD + "-1+" + MILLIARD, 5);
        tires("0*[" + MILLIARD + "*2]", 5);
    }

    /** What would wrap around is beyond, too. */
    private static void beyondByWrapping() {
        tires("[65*1000+536]*[65*1000+536]", 5);
        tires("[[2*1000+147]*[1000*1000]+483*1000+647+1]*2", 5);
        tires(MILLIARD + "+" + MILLIARD + "+" + MILLIARD + "+" + MILLIARD + "+" + MILLIARD, 5);
        tires(MILLIARD + "*[" + MILLIARD + "]", 5);
        tires("[0-" + MILLIARD + "]*[" + MILLIARD + "]", 5);
        tires("[0-" + MILLIARD + "]*[0-" + MILLIARD + "]", 5);
    }

    /** "(/ cut towards 0, % what is left then)". */
    private static void cutTowards0() {
        test("7/2=3 and 7%2=1", 1);
        test("[0-7]/2=0-3 and [0-7]%2=0-1", 1);
        test("7/[0-2]=0-3 and 7%[0-2]=1", 1);
        test("[0-7]/[0-2]=3 and [0-7]%[0-2]=0-1", 1);
        test("1/2=0 and 1%2=1 and [0-1]/2=0 and [0-1]%2=0-1", 1);
        test("0/7=0 and 0%7=0", 1);
        test("6/2=3 and 6%2=0 and [0-6]/2=0-3 and [0-6]%2=0", 1);
        test(MILLIARD + "/1=" + MILLIARD + " and " + MILLIARD + "%[0-1]=0", 1);
        test("[0-" + MILLIARD + "]/[0-1]=" + MILLIARD, 1);
    }

    /** "or divided by 0": by / and by %, by a NUMBER and by what comes out as 0. */
    private static void dividedBy0() {
        tires("1/0", 5);
        tires("1%0", 5);
        tires("0/0", 5);
        tires("0%0", 5);
        tires("1/man", 5);
        tires("1%hour", 5);
        tires("1/[1-1]+1", 5);
        tires("1+2*[3-4%0]", 5);
        tires("0*[1/0]", 5);
        tires("1/1", 1);
        tires("[0-1]/[0-1]", 1);
        test("1/0=1", -1);
        test("1=1%0", -1);
        test("not 1/0=1", -1);
        test("not not 1/0=1", -1);
    }

    /** "SUM ("<" | ">" | "=") SUM": below, at, above, and what "not", "or", "and" make of each. */
    private static void compared() {
        String[] signs = {"<", ">", "="};
        int[][] so = {{1, 0, 0}, {0, 0, 1}, {0, 1, 0}};
        for (int sign = 0; sign < 3; sign++) {
            for (int left = 0; left <= 2; left++) {
                String test = left + signs[sign] + "1";
                int is = so[sign][left];
                test(test, is);
                test("not " + test, 1 - is);
                test("not not " + test, is);
                test(test + " or 1=2", is);
                test("1=2 or " + test, is);
                test(test + " and 1=1", is);
                test("1=1 and " + test, is);
                test(test + (is == 1 ? " or 1/0=1" : " and 1/0=1"), is);
                test(test + (is == 1 ? " and 1/0=1" : " or 1/0=1"), -1);
            }
        }
    }

    /** "("or", "and" ask what stands behind only if it can still matter)". */
    private static void orAnd() {
        test("1=1 or 1/0=1", 1);
        test("1=2 or 1/0=1", -1);
        test("1=2 and 1/0=1", 0);
        test("1=1 and 1/0=1", -1);
        test("1/0=1 or 1=1", -1);
        test("1/0=1 and 1=2", -1);
        test("1=1 or 1/0=1 or 1/0=1", 1);
        test("1=2 or 1=1 or 1/0=1", 1);
        test("1=2 and 1/0=1 and 1/0=1", 0);
        test("1=1 and 1=2 and 1/0=1", 0);
        test("1=2 and 1/0=1 or 1=1", 1);
        test("1=2 and 1/0=1 or 1/0=1", -1);
        test("1=1 or 1=1 and 1/0=1", 1);
        test("(1=1 or 1/0=1) and 1=2", 0);
        test("(1=2 and 1/0=1) or 1=2", 0);
        test("not (1=1 or 1/0=1) and 1/0=1", 0);
        test("1=1 and (1=1 or 1/0=1)", 1);
    }
}
