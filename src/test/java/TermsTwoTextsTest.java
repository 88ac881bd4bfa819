/** Terms II, what is said of both languages: each bound of texts and sums, and one step beyond it. */
public final class TermsTwoTextsTest {
    private static final int NONE = TrainBearers.NONE;
    /** What the first clause of a law tells that a broken or false one behind it leaves standing. */
    private static final int UNTOLD = 13;
    private static final Checks C = new Checks("TermsTwoTextsTest");

    private TermsTwoTextsTest() {
    }

    public static void main(String[] args) {
        tapeOf400();
        tokensOfEveryByte();
        tokensAreLongestRows();
        blanksBetween();
        twelveClausesOfLaws();
        twelveClausesOfOrders();
        numbersToAThousand();
        fiftyPartsOfLaws();
        fiftyPartsOverAText();
        fiftyPartsOfOrders();
        eightBrackets();
        eightBracketsOfOrders();
        faultIsTheFirst();
        faultAtTheEnd();
        beyondABillion();
        beyondABillionInTests();
        beyondABillionInOrders();
        dividedByNothing();
        cutTowardsNothing();
        askedOnlyIfItMatters();
        longestChains();
        textAfterText();
        ranksOfSigns();
        C.finish();
    }

    /** A law of a new object: the place of its fault, or NONE if it is read. */
    private static void law(String text, int fault) {
        TrainBearers x = new TrainBearers();
        C.due("law '" + text + "'", Checks.law(x, text), fault == NONE ? 0 : -6);
        C.due("fault of law '" + text + "'", x.fault(), fault);
        C.due("laws behind law '" + text + "'", x.count(6), fault == NONE ? 1 : 0);
    }

    /** Orders of a new object with a girl who holds a yard: the place of their fault, or NONE. */
    private static void orders(String text, int fault, int told) {
        TrainBearers x = Checks.made(Checks.yards(5), 4);
        x.hold(0, 0);
        C.due("orders '" + text + "'", Checks.orders(x, text), told);
        C.due("fault of orders '" + text + "'", x.fault(), fault);
        C.due("what can be undone behind orders '" + text + "'", x.count(7), Math.min(16, 1 + Math.max(0, told)));
    }

    /** What a sum tells, by what a girl lifts; UNTOLD if it is broken. */
    private static void told(String sum, int want) {
        TrainBearers x = Checks.made(Checks.yards(5), 4);
        C.inForce(x, "lifts " + UNTOLD + ";lifts " + sum);
        C.due("lifts " + sum, x.asks(0, 0, 0), want);
    }

    private static void isSo(String test) {
        tested(test, true, false);
    }

    private static void isNotSo(String test) {
        tested(test, false, true);
    }

    private static void isBroken(String test) {
        tested(test, false, false);
    }

    /** A broken test is neither so, nor is its contrary. */
    private static void tested(String test, boolean so, boolean contrary) {
        TrainBearers x = Checks.made(Checks.yards(5), 4);
        C.inForce(x, "bars if " + test);
        C.due("bars if " + test, x.asks(0, 0, 1), so ? 1 : 0);
        C.inForce(x, "bars if not (" + test + ")");
        C.due("bars if not (" + test + ")", x.asks(0, 0, 1), contrary ? 1 : 0);
        C.due("rest if " + test, Checks.orders(x, "rest if " + test), so ? 1 : 0);
        C.due("rest if not (" + test + ")", Checks.orders(x, "rest if not (" + test + ")"), contrary ? 1 : 0);
    }

    private static void tapeOf400() {
        C.under("TEXTS are on a TAPE of at most 400 bytes");
        law("bars if 1=" + " ".repeat(389) + "1", NONE);
        law("bars" + " ".repeat(396), NONE);
        law("bars" + " ".repeat(395) + ".", 399);
        law("lifts" + " ".repeat(395), 400);
        law(" ".repeat(396) + "bars", NONE);
        law(" ".repeat(397) + "bar", 397);
        law(" ".repeat(400), 400);
        law("lifts " + "0".repeat(393) + "1", NONE);
        law("lifts " + "0".repeat(390) + "1000", NONE);
        law("lifts " + "0".repeat(390) + "1001", 6);
        law("l".repeat(400), 0);
        orders(" ".repeat(396) + "rest", NONE, 1);
        orders("rest" + " ".repeat(395) + ";", 400, -6);
        TrainBearers x = new TrainBearers();
        Checks.feed(x, "bars" + " ".repeat(396));
        C.due("feed() of a 401st byte and more", x.feed(0x20202020, 0x20202020, 0x20202020, 0x20202020, 0x20202020), NONE);
        C.due("law() of the 400", x.law(), 0);
    }

    private static void tokensOfEveryByte() {
        C.under("TOKENS: longest rows of letters a .. z, of digits, single other bytes, any blanks (32) between");
        for (int b = 0; b < 256; b++) {
            char sign = (char) b;
            boolean letter = b >= 97 && b <= 122;
            boolean digit = b >= 48 && b <= 57;
            boolean goesOn = "+-*/%".indexOf(sign) >= 0;
            law(sign + "lifts 1", b == 32 ? NONE : 0);
            law("lifts" + sign + "1", b == 32 || digit ? NONE : letter ? 0 : sign == '[' ? 7 : 5);
            law("lifts 1" + sign, b == 32 || digit ? NONE : goesOn || sign == ';' ? 8 : 7);
            law("lifts 1" + sign + "1", b == 32 ? 8 : digit || goesOn ? NONE : sign == ';' ? 8 : 7);
            law("bars if 1" + sign + "1", "<>=".indexOf(sign) >= 0 ? NONE : b == 32 ? 10 : goesOn || digit ? 11 : 9);
            int orderFault = b == 32 ? NONE : letter ? 0 : sign == ';' ? 5 : 4;
            orders("rest" + sign, orderFault, orderFault == NONE ? 1 : -6);
        }
    }

    private static void tokensAreLongestRows() {
        C.under("TOKENS: longest rows of letters a .. z, of digits");
        law("lift s 1", 0);
        law("liftss 1", 0);
        law("barsif 1=1", 0);
        law("bars if1=1and2=2or3=3", NONE);
        law("bars if not1=2", NONE);
        law("bars if notnot 1=2", 8);
        law("lifts10 00", 8);
        law("lifts1000", NONE);
        law("lifts girl2", 10);
        law("lifts 2girl", 7);
        law("lifts a", 6);
        law("lifts z", 6);
        law("brings dip*[yard+1]", NONE);
        orders("rest times20if1=1", NONE, 20);
        orders("rest if dip0=1", NONE, 1);
        orders("rest if dip 0 1=1", 14, -6);
        orders("hold 0at0", NONE, -3);
    }

    private static void blanksBetween() {
        C.under("any blanks (32) between");
        law("  lifts   [  1  +  2  ]   if   (  1  =  1  )  ;  bars  ", NONE);
        law("lifts[1+2]if(1=1);bars", NONE);
        law("bars\tif 1=1", 4);
        law("bars\nif 1=1", 4);
        law("bars\u00a0if 1=1", 4);
        law("bars\u0000", 4);
    }

    private static void twelveClausesOfLaws() {
        C.under("CLAUSE {\";\" CLAUSE}, 12 at most (FAULT at the 13th's first TOKEN)");
        String twelve = "bars" + ";bars".repeat(11);
        law("bars", NONE);
        law(twelve, NONE);
        law(twelve + ";bars", 60);
        law(twelve + " ;  bars", 63);
        law(twelve + ";", 60);
        law(twelve + ";  ", 62);
        law(twelve + ";;", 60);
        law(twelve + ";9", 60);
        law(twelve + " bars", 60);
        law("bars" + ";bars".repeat(10) + ";", 55);
        law("bars" + ";bars".repeat(10) + ";lifts", 60);
        law(";bars", 0);
        law("bars;;bars", 5);
        // The twelfth is a clause as all others are: the last that holds tells.
        TrainBearers x = Checks.made(Checks.yards(5), 4);
        C.inForce(x, "lifts 1" + ";lifts 1".repeat(10) + ";lifts 12");
        C.due("the twelfth's", x.asks(0, 0, 0), 12);
    }

    private static void twelveClausesOfOrders() {
        C.under("CLAUSE {\";\" CLAUSE}, 12 at most (ORDERS)");
        String twelve = "rest" + ";rest".repeat(11);
        orders(twelve, NONE, 12);
        orders(twelve + ";rest", 60, -6);
        orders(twelve + ";", 60, -6);
        orders(twelve + " ; drop 0", 62, -6);
        TrainBearers x = new TrainBearers();
        C.due("the twelfth can't be", Checks.orders(x, "rest" + ";rest".repeat(10) + ";walk 1"), -3);
        C.due("stopped()", x.stopped(), 11);
        C.due("240 of twelve CLAUSES", Checks.orders(x, "rest times 20" + ";rest times 20".repeat(11)), 240);
        C.due("the HOUR behind them", x.count(15), 240);
    }

    private static void numbersToAThousand() {
        C.under("NUMBER (to 1,000)");
        law("lifts 0", NONE);
        law("lifts 999", NONE);
        law("lifts 1000", NONE);
        law("lifts 1001", 6);
        law("lifts 9999", 6);
        law("lifts 10000", 6);
        law("bars if 1=1001", 10);
        law("bars if 1=1000", NONE);
        // Beyond what an int, a long could hold: these don't come back as small numbers.
        law("lifts 2147483648", 6);
        law("lifts 4294967296", 6);
        law("lifts 4294967297", 6);
        law("lifts 18446744073709551616", 6);
        law("lifts 18446744073709551617", 6);
        law("lifts -1", 6);
        law("lifts 0-1", NONE);
        told("1000-990", 10);
        told("1000/100", 10);
        told("0001", 1);
        told("0", 0);
        orders("drop 1000", NONE, -3);
        orders("drop 1001", 5, -6);
        orders("drop 1000-1000", NONE, 1);
    }

    private static void fiftyPartsOfLaws() {
        C.under("50 PARTS that are NUMBERS and words (FAULT at the 51st)");
        law("lifts 1" + "+1".repeat(49), NONE);
        law("lifts 1" + "+1".repeat(50), 106);
        law("lifts 1" + "+1".repeat(51), 106);
        law("lifts 1" + "+1".repeat(49) + "+", 106);
        law("lifts 1" + "+1".repeat(49) + "+1001", 106);
        law("lifts 1" + "+1".repeat(49) + "+  what", 108);
        law("lifts girl" + "+girl".repeat(49), NONE);
        law("lifts girl" + "+girl".repeat(50), 256);
        law("lifts [1]" + "+[1]".repeat(49), NONE);
        // The bracket is no such part: it is the number within that is the 51st.
        law("lifts [1]" + "+[1]".repeat(50), 207);
        law("lifts 1" + "+1".repeat(49) + ";bars", NONE);
        // With the number of the clause ahead of it these are 50.
        told("1" + "+0".repeat(48), 1);
        told("49" + "-1".repeat(48), 1);
    }

    private static void fiftyPartsOverAText() {
        C.under("50 PARTS that are NUMBERS and words (of a TEXT)");
        String half = "lifts 1" + "+1".repeat(24);
        law(half + " if 1" + "+1".repeat(23) + "=1", NONE);
        law(half + " if 1" + "+1".repeat(23) + "=1+1", 109);
        law(half + ";" + half, NONE);
        law(half + ";" + half + "+mud", 112);
        law(half + ";" + half + " if mud=1", 115);
        law(half + ";bars if 1" + "=1 and 1".repeat(24) + "=1", 56 + 9 + 12 * 8 + 1);
        law(half + ";bars if 1" + "=1 and 1".repeat(11) + "=1;lifts 1", NONE);
        TrainBearers x = new TrainBearers();
        C.due("a law of 50", Checks.law(x, half + ";" + half), 0);
        C.due("the next one's are counted anew", Checks.law(x, half + ";" + half), 1);
    }

    private static void fiftyPartsOfOrders() {
        C.under("Y, G, TIMES aside, NUMBERS and words count as PARTS");
        String dips = "rest times 2 if dip 0" + "+dip1".repeat(24) + "=tired 2" + "+hour".repeat(24);
        orders(dips, NONE, 0);
        orders(dips + "+1", dips.length() + 1, -6);
        orders(dips + "+dip 8", dips.length() + 1, -6);
        orders(dips + ";rest times 20", NONE, 20);
        orders(dips + ";rest if 1=1", dips.length() + 9, -6);
        String hold = "hold 0" + "+0".repeat(24) + " at 0" + "+0".repeat(24);
        orders(hold, NONE, -3);
        orders(hold + " times 20", NONE, -3);
        orders(hold + "+0", hold.length() + 1, -6);
        orders(hold + " if 1=1", hold.length() + 4, -6);
        orders("drop 0" + "+0".repeat(49), NONE, 1);
        orders("drop 0" + "+0".repeat(50), 105, -6);
    }

    private static void eightBrackets() {
        C.under("8 brackets of both kinds within one another (FAULT at the 9th) at most");
        law("lifts " + "[".repeat(8) + "1" + "]".repeat(8), NONE);
        law("lifts " + "[".repeat(9) + "1" + "]".repeat(9), 14);
        law("lifts " + "[".repeat(10), 14);
        law("lifts " + "[ ".repeat(9) + "1", 22);
        law("bars if " + "(".repeat(8) + "1=1" + ")".repeat(8), NONE);
        law("bars if " + "(".repeat(9) + "1=1" + ")".repeat(9), 16);
        law("bars if " + "not(".repeat(8) + "1=1" + ")".repeat(8), NONE);
        law("bars if " + "not(".repeat(9) + "1=1" + ")".repeat(9), 8 + 8 * 4 + 3);
        law("bars if (((([[[[1]]]]=1))))", NONE);
        law("bars if (((([[[[[1]]]]]=1))))", 16);
        law("bars if ((((1=[[[[1]]]]))))", NONE);
        law("bars if ((((1=[[[[[1]]]]]))))", 18);
        law("bars if (((((((([1]=1))))))))", 16);
        law("bars if ((((((([1]=[1])))))))", NONE);
        // Beside one another they are not counted together.
        law("lifts [1]" + "*[1]".repeat(12), NONE);
        law("lifts " + "[".repeat(8) + "1" + "]".repeat(8) + "+" + "[".repeat(8) + "1" + "]".repeat(8), NONE);
        law("lifts " + "[".repeat(8) + "1" + "]".repeat(8) + "+" + "[".repeat(9), 24 + 8);
        law("bars if (1=1) and ((((((((1=1)))))))) or (1=1)", NONE);
        law("bars if " + "(".repeat(8) + "1=1" + ")".repeat(7), 26);
        law("bars if " + "(".repeat(8) + "1=1" + ")".repeat(9), 27);
        told("[".repeat(8) + "7" + "]".repeat(8), 7);
        told("2*[3-[2-[1+[3-[2-[1]]]]]]", 2 * (3 - (2 - (1 + (3 - (2 - 1))))));
    }

    private static void eightBracketsOfOrders() {
        C.under("8 brackets of both kinds within one another (ORDERS)");
        String eight = "[".repeat(8) + "0" + "]".repeat(8);
        String nine = "[" + eight + "]";
        orders("drop " + eight, NONE, 1);
        orders("drop " + nine, 13, -6);
        orders("hold " + eight + " at " + eight, NONE, -3);
        orders("hold " + eight + " at " + nine, 5 + 17 + 4 + 8, -6);
        orders("rest if ((((" + "[[[[0]]]]=0))))", NONE, 1);
        orders("rest if ((((" + "[[[[[0]]]]]=0))))", 16, -6);
        orders("drop " + eight + " if " + eight + "=0", NONE, 1);
    }

    private static void faultIsTheFirst() {
        C.under("FAULT: the first TOKEN that can't go on there");
        law("bars if 1=1 1;what", 12);
        law("lifts 1 2 3", 8);
        law("lifts (1)", 6);
        law("bars if [1=1]", 10);
        law("bars if (1)", 10);
        law("bars if (1+2)=3", 12);
        law("bars if 1<2<3", 11);
        law("bars if 1==1", 10);
        law("lifts 1 if 1=1 if 1=1", 15);
        law("bars times 2", 5);
        law("lifts 1 times 2", 8);
        law("bars 1", 5);
        law("hold 0 at 0", 0);
        law("lifts fate", 6);
        orders("hold 0", 6, -6);
        orders("hold 0 on 0", 7, -6);
        orders("drop 0 at 0", 7, -6);
        orders("rest 1", 5, -6);
        orders("rest if 1=2 times 2", 12, -6);
        orders("rest times 2 times 2", 13, -6);
        orders("rest if mud=1", 8, -6);
        orders("bars", 0, -6);
    }

    private static void faultAtTheEnd() {
        C.under("FAULT: the first TOKEN that can't go on there (the end's: the TEXT's length)");
        law("", 0);
        law(" ", 1);
        law("lifts", 5);
        law("lifts   ", 8);
        law("lifts 1+", 8);
        law("lifts 1+ ", 9);
        law("lifts [1", 8);
        law("bars if", 7);
        law("bars if not", 11);
        law("bars if 1", 9);
        law("bars if 1<", 10);
        law("bars if (1<2", 12);
        law("bars if 1<2 or ", 15);
        law("bars;", 5);
        orders("", 0, -6);
        orders("   ", 3, -6);
        orders("hold", 4, -6);
        orders("hold 0 at", 9, -6);
        orders("rest times", 10, -6);
        orders("rest if dip", 11, -6);
        orders("rest if tired 0= ", 17, -6);
    }

    private static void beyondABillion() {
        C.under("Beyond 1,000,000,000 either way a SUM is BROKEN");
        told("1000*1000*1000", 20);
        told("1000*1000*1000-1000*1000*999-1000*999-993", 7);
        told("1000*1000*1000+0", 20);
        told("1000*1000*1000+1", UNTOLD);
        told("1000*1000*1000+1-1", UNTOLD);
        told("1+1000*1000*1000", UNTOLD);
        told("1000*1000*999+1000*1000", 20);
        told("1000*1000*999+1000*1000+1", UNTOLD);
        told("0-1000*1000*1000", 0);
        told("7-1000*1000*1000+1000*1000*1000", 7);
        told("0-1000*1000*1000-1", UNTOLD);
        told("0-1000*1000*1000-1+1", UNTOLD);
        told("0-1-1000*1000*1000", UNTOLD);
        told("[0-1000]*1000*1000", 0);
        told("[0-1000]*1000*1000-1", UNTOLD);
        told("[1000*1000*1000+1]*0", UNTOLD);
        told("0*[1000*1000*1000+1]", UNTOLD);
        told("1000*1000*1000*2/1000", UNTOLD);
        told("[1000*1000*1000]*[1000*1000*1000]", UNTOLD);
        told("[1000*1000*1000]/[1000*1000*1000]", 1);
        told("[0-1000*1000*1000]/[0-1]", 20);
        told("[1000*1000*1000]%[1000*1000*1000]", 0);
        // In an int these would come round to 0, to 7.
        told("256*256*[256*256]", UNTOLD);
        told("[0-256]*256*[256*256]", UNTOLD);
        told("256*256*[256*256]+7", UNTOLD);
        told("1000*1000*1000+1000*1000*1000+1000*1000*1000+1000*1000*1000", UNTOLD);
    }

    private static void beyondABillionInTests() {
        C.under("Beyond 1,000,000,000 either way a TEST is BROKEN");
        isSo("1000*1000*1000>0");
        isBroken("1000*1000*1000+1>0");
        isBroken("0<1000*1000*1000+1");
        isBroken("1000*1000*1000+1=1000*1000*1000+1");
        isSo("0-1000*1000*1000<0");
        isBroken("0-1000*1000*1000-1<0");
        isBroken("not 1000*1000*1000+1>0");
        isSo("1000*1000*1000=1000*1000*1000");
        isSo("1000*1000*1000>0-1000*1000*1000");
        isNotSo("1000*1000*1000<0-1000*1000*1000");
    }

    private static void beyondABillionInOrders() {
        C.under("Beyond 1,000,000,000 either way a SUM is BROKEN (ORDERS)");
        orders("drop 0*[1000*1000*1000]", NONE, 1);
        orders("drop 0*[1000*1000*1000+1]", NONE, -3);
        orders("drop 0*[0-1000*1000*1000]", NONE, 1);
        orders("drop 0*[0-1000*1000*1000-1]", NONE, -3);
        orders("rest if 1000*1000*1000>0", NONE, 1);
        orders("rest if 1000*1000*1000+1>0", NONE, 0);
        orders("drop 256*256*[256*256]", NONE, -3);
    }

    private static void dividedByNothing() {
        C.under("divided by 0, a SUM, a TEST is BROKEN");
        told("1/1", 1);
        told("1/0", UNTOLD);
        told("0/0", UNTOLD);
        told("1%1", 0);
        told("1%0", UNTOLD);
        told("0%0", UNTOLD);
        told("0/1", 0);
        told("0%1", 0);
        told("5/[2-1]", 5);
        told("5/[2-2]", UNTOLD);
        told("5/[1/2]", UNTOLD);
        told("5*0/1", 0);
        told("0*[5/0]", UNTOLD);
        told("7+0*[5%0]", UNTOLD);
        isBroken("1/0=0");
        isBroken("0=1%0");
        isSo("1/1=1");
        orders("drop 0/1", NONE, 1);
        orders("drop 0/0", NONE, -3);
        orders("drop 0%0", NONE, -3);
        orders("rest if 1/0=0", NONE, 0);
        orders("rest if not 1/0=0", NONE, 0);
    }

    private static void cutTowardsNothing() {
        C.under("/ cut towards 0, % what is left then");
        told("6/2", 3);
        told("7/2", 3);
        told("10+[0-7]/2", 7);
        told("10+7/[0-2]", 7);
        told("10+[0-7]/[0-2]", 13);
        told("10+[0-1]/2", 10);
        told("10+7%2", 11);
        told("10+6%2", 10);
        told("10+[0-7]%2", 9);
        told("10+7%[0-2]", 11);
        told("10+[0-7]%[0-2]", 9);
        told("10+[0-1]%1000", 9);
        told("1%1000", 1);
        isSo("[0-7]/2*2+[0-7]%2=0-7");
        isSo("7/[0-2]*[0-2]+7%[0-2]=7");
    }

    private static void askedOnlyIfItMatters() {
        C.under("\"or\", \"and\" ask what stands behind only if it can still matter");
        String so = "1=1";
        String not = "1=2";
        String broken = "1/0=1";
        isSo(so + " or " + broken);
        isBroken(not + " or " + broken);
        isBroken(broken + " or " + so);
        isBroken(broken + " or " + not);
        isNotSo(not + " and " + broken);
        isBroken(so + " and " + broken);
        isBroken(broken + " and " + so);
        isBroken(broken + " and " + not);
        isBroken("not " + broken);
        isSo(not + " or " + so + " or " + broken);
        isBroken(not + " or " + not + " or " + broken);
        isSo(not + " and " + broken + " or " + so);
        isNotSo(not + " and " + broken + " or " + not);
        isSo(so + " or " + broken + " and " + broken);
        isNotSo(so + " and " + not + " and " + broken);
        isBroken(so + " and " + so + " and " + broken);
        isSo("(" + so + " or " + broken + ") and " + so);
        isBroken("(" + so + " or " + broken + ") and " + broken);
        isNotSo("(" + so + " or " + broken + ") and (" + not + " and " + broken + ")");
        isSo("not (" + not + " and " + broken + ")");
        isNotSo("not (" + so + " or " + broken + ")");
        isBroken("not (" + so + " and " + broken + ")");
        // What is skipped is skipped to its very end, be that a "not" or a bracket.
        isSo(so + " or not " + so);
        isNotSo(not + " and not " + not);
        isSo(so + " or (" + not + " or not " + so + ")");
        isNotSo(not + " and (" + so + " and not " + not + ")");
        isSo("(" + so + " or not " + so + ") and " + so);
        isSo(not + " and not " + not + " or " + so);
        isSo(so + " or not (" + so + " and not " + broken + ")");
    }

    private static void longestChains() {
        C.under("{\"or\" BOTH}, {\"and\" PLAIN}: as many as 50 PARTS let");
        String notSo = "1=2 or ".repeat(24);
        String so = "1=1 and ".repeat(24);
        law("bars if " + notSo + "1=1", NONE);
        law("bars if " + notSo + "1=1 or 1=1", 8 + 24 * 7 + 7);
        TrainBearers x = Checks.made(Checks.yards(5), 4);
        C.inForce(x, "bars if " + notSo + "1=1");
        C.due("the last of 25 is so", x.asks(0, 0, 1), 1);
        C.inForce(x, "bars if " + notSo + "1=2");
        C.due("none of 25 is so", x.asks(0, 0, 1), 0);
        C.inForce(x, "bars if " + so + "1=1");
        C.due("all of 25 are so", x.asks(0, 0, 1), 1);
        C.inForce(x, "bars if " + so + "1=2");
        C.due("the last of 25 is not so", x.asks(0, 0, 1), 0);
        C.due("25 in orders", Checks.orders(x, "rest if " + notSo + "1=1"), 1);
        C.due("25 in orders, the last not so", Checks.orders(x, "rest if " + so + "1=2"), 0);
        told("1+2*[1+2*[1+2*[1+2*[1+2*[1+2*[1+2*[1+2*[0-1]]]]]]]]", 0);
        isSo("1+2*[1+2*[1+2*[1+2*[1+2*[1+2*[1+2*[1+2*1]]]]]]]=1+2*[1+2*[1+2*[1+2*[1+2*[1+2*[1+2*[1+2*1]]]]]]]");
    }

    private static void textAfterText() {
        C.under("TEXTS, one after another");
        TrainBearers x = Checks.made(Checks.yards(5), 4);
        x.image(0);
        for (int i = 1; i <= 120; i++) {
            C.due("orders " + i, Checks.orders(x, "rest if hour<999 and (dip 0=5 or tired 0<9) and [1+2]*3=9"), 1);
        }
        C.due("the HOUR", x.count(15), 120);
        for (int i = 1; i <= 60; i++) {
            x.back(0);
            C.due("law " + i, Checks.law(x, "lifts [girl+1]*" + i + "%20 if mood=0 and (mud=0 or heavy=9)"), 0);
            x.force(0);
            C.due("by law " + i, x.asks(0, 0, 0), i % 20);
        }
    }

    private static void ranksOfSigns() {
        C.under("TEST: BOTH {\"or\" BOTH} .. PART, from the left");
        told("7-2-1", 4);
        told("2+3*4", 14);
        told("100/10/5", 2);
        told("17%10*2", 14);
        told("2*7%4", 2);
        told("[2+3]*4", 20);
        told("2*[7%4]", 6);
        told("10-[3-1]", 8);
        isSo("1=2 and 1=2 or 1=1");
        isSo("1=1 or 1=1 and 1=2");
        isNotSo("(1=1 or 1=1) and 1=2");
        isNotSo("not 1=2 and 1=2");
        isSo("not (1=2 and 1=2)");
        isSo("not 1=1 or 1=1");
        isSo("not not 1=1");
        isNotSo("not not not 1=1");
        isSo("1<2");
        isNotSo("2<2");
        isNotSo("3<2");
        isSo("3>2");
        isNotSo("2>2");
        isNotSo("1>2");
        isSo("2=2");
        isNotSo("1=2");
        isNotSo("3=2");
    }
}
