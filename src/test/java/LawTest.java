/** Promises 10, 12, 14: law, fault, force; and what a LAW tells. */
public final class LawTest {
    public static void main(String[] args) {
        reading();
        faults();
        limits();
        telling();
        broken();
        asking();
        force();
        Check.finish();
    }

    private static void fault(String text, int place) {
        StatueRelief x = new StatueRelief();
        Check.refused("law " + text, x, Check.law(x, text), -6);
        Check.due("fault of " + text, x.fault(), place);
        Check.due("no LAW", x.count(5), 0);
        Check.due("the TAPE is empty", x.count(7), 0);
    }

    private static void good(String text) {
        StatueRelief x = new StatueRelief();
        Check.due("law " + text, Check.law(x, text), 0);
        Check.due("no fault of " + text, x.fault(), -1);
        Check.due("status", x.status(), 0);
    }

    private static void reading() {
        StatueRelief x = new StatueRelief();
        Check.due("fault ahead of any", x.fault(), -1);
        x.pass();
        for (int i = 0; i < 6; i++) {
            Check.due("law " + i, Check.law(x, "bars"), i);
            Check.due("the TAPE is empty", x.count(7), 0);
        }
        Check.due("it leaves what can be undone", x.count(6), 1);
        Check.due("none is in FORCE by that", x.count(13), -1);
        Check.refused("the seventh", x, Check.law(x, "no law"), -5);
        Check.due("the TAPE is empty then, too", x.count(7), 0);
        Check.due("it was not read", x.fault(), -1);
        x.end(0);
        Check.refused("an empty seventh", x, x.law(), -5);
        StatueRelief y = new StatueRelief();
        Check.law(y, "bars bars");
        Check.due("a fault", y.fault(), 5);
        Check.law(y, "bars");
        Check.due("none any more", y.fault(), -1);
        Check.orders(y, "pass pass");
        Check.due("that of orders(), too", y.fault(), 5);
        y.row();
        Check.due("row() reads no TEXT", y.fault(), 5);
        good("  tires   1  ");
        good("tires1if1=1;bars");
        good("tires 0001000 if 00=0");
        good("bars if not not not 1=1");
        good("bars if not(not 1=2)and(1=1or 2=2)");
        good("tires man+hold-tired*held/other%unlike+[hour+weather]");
        good("rests [[[[[[[[1]]]]]]]]");
    }

    private static void faults() {
        fault("", 0);
        fault("     ", 5);
        fault(";", 0);
        fault("bars;", 5);
        fault("bars; ", 6);
        fault("bars;;bars", 5);
        fault(" tire 1", 1);
        fault("tiress 1", 0);
        fault("Bars", 0);
        fault("bars\tif 1=1", 4);
        fault("bars " + (char) 233, 5);
        fault("bars" + (char) 0, 4);
        fault("tires", 5);
        fault("tires ", 6);
        fault("tires if 1=1", 6);
        fault("tires -1", 6);
        fault("tires 1 1", 8);
        fault("tires 1+", 8);
        fault("tires 1+*2", 8);
        fault("tires (1)", 6);
        fault("tires 1001", 6);
        fault("tires 99999999999999999999999999999", 6);
        fault("tires [1", 8);
        fault("tires [1)", 8);
        fault("tires []", 7);
        fault("tires 1]", 7);
        fault("tires 1=1", 7);
        fault("tires 1 times 2", 8);
        fault("tires done", 6);
        fault("tires up", 6);
        fault("tires tired 1", 12);
        fault("tires 1 if", 10);
        fault("bars if 1", 9);
        fault("bars if (1)=1", 10);
        fault("bars if (1=1", 12);
        fault("bars if (1=1]", 12);
        fault("bars if 1=1)", 11);
        fault("bars if 1=1=1", 11);
        fault("bars if 1<=2", 10);
        fault("bars if not", 11);
        fault("bars if 1=1 and", 15);
        fault("bars if 1=1 or or 1=1", 15);
        fault("bars if 1=1 not 1=1", 12);
        fault("bars if 1=1 if 1=1", 12);
        fault("bars if 1=1or1=1orr1=1", 16);
        fault("bars 1", 5);
        fault("relieve 1", 0);
        fault("pass", 0);
    }

    private static void limits() {
        good("bars" + Check.times(11, ";bars"));
        fault("bars" + Check.times(12, ";bars"), 60);
        fault("bars" + Check.times(11, ";bars") + "; ", 61);
        fault("bars" + Check.times(11, ";bars") + ";1", 60);
        good("tires 1" + Check.times(49, "+1"));
        fault("tires 1" + Check.times(50, "+1"), 106);
        fault("tires 1" + Check.times(49, "+1") + ";tires 1", 112);
        fault("tires 1" + Check.times(49, "+1") + "+[1]", 107);
        good("tires 1" + Check.times(48, "+1") + "+man");
        fault("bars if " + Check.times(25, "1=1 or ") + "man=1", 183);
        good("tires " + Check.times(8, "[") + "1" + Check.times(8, "]"));
        fault("tires " + Check.times(9, "[") + "1" + Check.times(9, "]"), 14);
        good("bars if " + Check.times(8, "(") + "1=1" + Check.times(8, ")"));
        fault("bars if " + Check.times(9, "(") + "1=1" + Check.times(9, ")"), 16);
        good("bars if " + Check.times(4, "(") + Check.times(4, "[") + "1" + Check.times(4, "]") + "=1" + Check.times(4, ")"));
        fault("bars if " + Check.times(4, "(") + Check.times(5, "[") + "1", 16);
        good("bars if ([1]=[1]) and ([1]=1) and ([1]=1) and ([1]=1) and ([1]=1)");
        good("bars if " + Check.times(97, "not ") + "1=1");
        fault("bars if " + Check.times(98, "not "), 400);
        StatueRelief x = new StatueRelief();
        Check.law(x, "bars if not (not (not (not (not (not (not (not 1=1)))))))" + Check.times(6,
                " or not(not(not(not(not(not(not(not 1=2)))))))"));
        Check.due("many turns are read", x.fault(), -1);
        x.force(0);
        x.man(1, 1);
        Check.due("and so", x.of(0, 7), 1);
    }

    private static StatueRelief with(String law) {
        StatueRelief x = new StatueRelief();
        x.man(5, 1);
        x.man(4, 6);
        x.man(3, 63);
        Check.inForce(x, law);
        return x;
    }

    private static void tires(String sum, int by) {
        Check.due("tires " + sum, with("tires " + sum).of(1, 5), by);
    }

    private static void bars(String test, boolean is) {
        Check.due("bars if " + test, with("bars if " + test).of(1, 7), is ? 1 : 0);
    }

    private static void telling() {
        tires("2+3*2", 8);
        tires("[2+3]*2-4", 6);
        tires("9-3-2", 4);
        tires("8/2/2", 2);
        tires("[0-7]/2+5", 2);
        tires("[0-7]%3+5", 4);
        tires("7%[0-3]+2", 3);
        tires("7/[0-2]+9", 6);
        tires("9-7%4*2", 3);
        tires("man", 1);
        tires("hold", 4);
        tires("other+2", 1);
        tires("unlike+3", 2);
        tires("10", 9);
        tires("0-1", 0);
        tires("1;tires 2;tires 3 if 1=2", 2);
        String deep = Check.times(8, "1+1*[") + "0" + Check.times(8, "]");
        tires(deep, 8);
        bars("1+7=" + deep, true);
        bars("1+6=" + deep, false);
        tires("1;rests 5;notices 7", 1);
        tires("6 if man=0;rests 4", 1);
        bars("1<2", true);
        bars("2<1", false);
        bars("1<1", false);
        bars("2>1", true);
        bars("1>1", false);
        bars("1=1", true);
        bars("not 1=1", false);
        bars("not not 1=1", true);
        bars("1=1 or 1=2 and 1=2", true);
        bars("(1=1 or 1=2) and 1=2", false);
        bars("not 1=2 and 1=2", false);
        bars("not (1=2 and 1=2)", true);
        bars("1=2 or 1=2 or 1=1", true);
        bars("1=1 and 1=1 and 1=2", false);
        Check.due("any \"bars\" does", with("bars if man=1;bars if 1=2").of(1, 7), 1);
        StatueRelief x = with("notices 200;notices 0-5 if unlike=3;notices other if man=2");
        Check.due("99 at most", x.two(0, 2, 1), 99);
        Check.due("0 at least", x.two(0, 1, 1), 0);
        Check.due("the last that HOLDS", x.two(2, 1, 1), 1);
        Check.due("UNLIKE without one that HOLDS", with("notices 50 if man=0").two(1, 0, 1), 3);
        StatueRelief y = with("notices 50");
        Check.due("nobody is UP", y.relieve(0), 0);
        Check.due("one is", y.relieve(1), 50);
    }

    private static void broken() {
        tires("5;tires 1/0", 5);
        tires("5;tires 1%0", 5);
        tires("5;tires 6 if 1/0=1", 5);
        tires("5;tires 6 if not 1/0=1", 5);
        tires("1000*1000*1000/1000/1000/500", 2);
        tires("[1000*1000*1000-1+1]/1000/1000/500", 2);
        tires("5;tires [1000*1000*1000+1]-1000*1000*1000", 5);
        tires("5;tires 1000*1000*1000*2/1000/1000/1000", 5);
        tires("5;tires [0-1000*1000*1000]-1+1000*1000*1000", 5);
        tires("[0-1000*1000*1000]+1000*1000*1000+4", 4);
        tires("5;tires 1000*1000*1000*[1000*1000*1000]*0", 5);
        bars("1=1 or 1/0=1", true);
        bars("1/0=1 or 1=1", false);
        bars("1=2 and 1/0=1 or 1=1", true);
        bars("not (1=2 and 1/0=1)", true);
        bars("1=2 or 1/0=1", false);
        bars("not (1=1 and 1/0=1)", false);
        bars("1=1 and 1/0=1 or 1=1", false);
        Check.due("one that is BROKEN hides no other", with("bars;bars if 1/0=1").of(1, 7), 1);
    }

    private static void asking() {
        StatueRelief x = with("tires held+2;rests hour;notices tired*10+held;bars if weather>3");
        Check.due("held of nobody", x.of(0, 5), 2);
        x.relieve(0);
        x.pass();
        Check.due("TIRED", x.of(0, 2), 2);
        Check.due("held, of another, too", x.of(2, 5), 3);
        Check.due("hour", x.of(1, 6), 1);
        Check.due("tired is that of who goes UP", x.two(0, 1, 1), 21);
        Check.due("held ahead of the relief", x.relieve(1), 1);
        Check.due("HELD then", x.count(3), 0);
        x.terms(2, 4);
        Check.due("weather", x.of(2, 7), 1);
        x.terms(2, 3);
        Check.due("other weather", x.of(2, 7), 0);
        StatueRelief y = with("tires 1 if other=0-1 and unlike=0-1;tires 7 if other>0-1;rests 3 if other=0-1;"
                + "bars if not (other=0-1 and unlike=0-1)");
        y.relieve(0);
        Check.due("no other for tires", y.of(1, 5), 1);
        Check.due("nor for rests", y.of(1, 6), 3);
        Check.due("nor for bars", y.of(1, 7), 0);
    }

    private static void force() {
        StatueRelief x = new StatueRelief();
        x.man(5, 1);
        Check.law(x, "tires 2");
        Check.law(x, "tires 3");
        x.pass();
        Check.due("none was", x.force(1), -1);
        Check.due("that is no refusal", x.status(), 0);
        Check.due("in FORCE", x.count(13), 1);
        Check.due("it tells", x.of(0, 5), 3);
        Check.due("1 was", x.force(0), 1);
        Check.due("it tells", x.of(0, 5), 2);
        Check.refused("no such LAW", x, x.force(2), -2);
        Check.refused("nor such one", x, x.force(-2), -2);
        Check.due("in FORCE still", x.count(13), 0);
        Check.due("NONE", x.force(-1), 0);
        Check.due("none tells", x.of(0, 5), 1);
        Check.due("it leaves what can be undone", x.count(6), 1);
        x.undo();
        Check.due("which leaves it", x.count(13), -1);
    }
}
