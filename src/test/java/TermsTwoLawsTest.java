/** Terms II, what is said of LAWS and of ORDERS: each bound, and one step beyond it. */
public final class TermsTwoLawsTest {
    private static final int NONE = TrainBearers.NONE;
    private static final Checks C = new Checks("TermsTwoLawsTest");

    private TermsTwoLawsTest() {
    }

    public static void main(String[] args) {
        sixLaws();
        noneInForceAtFirst();
        wordsOfLifts();
        wordsOfTires();
        wordsOfBrings();
        clauseHolds();
        lifts();
        liftsWithout();
        tires();
        tiresWithout();
        brings();
        bringsWithout();
        barred();
        dips();
        times();
        yardsAndGirlsInOrders();
        dipWithoutSuchAYard();
        done();
        latest();
        wordsOfOrders();
        ifIsAskedEachTime();
        sumsAreAskedEachTime();
        oneThatCannotBe();
        allAsItWasAheadOfIt();
        C.finish();
    }

    private static void sixLaws() {
        C.under("LAWS, 6 at most");
        TrainBearers x = Checks.made(Checks.yards(20), 0);
        for (int i = 0; i < 6; i++) {
            int law = i;
            C.accepted("law " + i, x, i, () -> Checks.law(x, "lifts " + (law + 1)));
            C.due("count(6)", x.count(6), i + 1);
        }
        C.refused("the seventh", x, -5, () -> Checks.law(x, "lifts 7"));
        C.due("count(6)", x.count(6), 6);
        C.accepted("force(5)", x, NONE, () -> x.force(5));
        C.due("by the sixth", x.asks(0, 0, 0), 6);
        C.refused("force(6)", x, -2, () -> x.force(6));
        C.accepted("force(0)", x, 5, () -> x.force(0));
        C.due("by the first", x.asks(0, 0, 0), 1);
        C.asked("compare(5)", x, 20, () -> x.compare(5));
        C.asked("compare(6)", x, NONE, () -> x.compare(6));
    }

    private static void noneInForceAtFirst() {
        C.under("one is in FORCE (NONE at first: no CLAUSE)");
        TrainBearers x = Checks.made(Checks.yards(20), 7);
        C.due("count(14) at first", x.count(14), NONE);
        Checks.law(x, "lifts 1;bars");
        C.due("count(14) behind law()", x.count(14), NONE);
        C.due("lifts", x.asks(0, 0, 0), 7);
        C.due("bars", x.asks(0, 0, 1), 0);
        C.accepted("force(0)", x, NONE, () -> x.force(0));
        C.due("lifts by it", x.asks(0, 0, 0), 1);
        C.due("bars by it", x.asks(0, 0, 1), 1);
        C.accepted("force(NONE)", x, 0, () -> x.force(NONE));
        C.due("lifts again", x.asks(0, 0, 0), 7);
    }

    /** Girl 1 of strong 7 holds yard 1 of heavy 15; tired 2, mud 1, hour 6, mood 4, at place 1. */
    private static TrainBearers inTheMiddle() {
        TrainBearers x = Checks.made(Checks.yards(10, 15), 3, 7);
        x.lane(0, 1, 1);
        x.lane(1, 2, 5);
        x.hold(1, 1);
        x.walk(1);
        x.terms(0, 6);
        x.terms(2, 4);
        C.due("tired of girl 1", x.of(1, 1), 2);
        C.due("mud of yard 1", x.at(1, 1), 1);
        return x;
    }

    private static final String[] WORDS = {"girl", "strong", "tired", "yard", "heavy", "mud", "dip", "stiles", "hour", "mood"};

    private static String written(int value) {
        return value < 0 ? "0-" + -value : "" + value;
    }

    private static void wordsOfLifts() {
        C.under("\"lifts\", \"bars\" are asked of a GIRL and a YARD (dip, stiles -1)");
        int[] values = {1, 7, 2, 1, 15, 1, -1, -1, 6, 4};
        for (int i = 0; i < WORDS.length; i++) {
            for (int off = -1; off <= 1; off++) {
                TrainBearers x = inTheMiddle();
                String test = WORDS[i] + "=" + written(values[i] + off);
                C.inForce(x, "lifts 0;lifts 1 if " + test + ";bars if " + test);
                C.due("lifts 1 if " + test, x.asks(1, 1, 0), off == 0 ? 1 : 0);
                C.due("bars if " + test, x.asks(1, 1, 1), off == 0 ? 1 : 0);
            }
        }
    }

    private static void wordsOfTires() {
        C.under("\"tires\" of a GIRL who holds a YARD and a LANE (dip -1)");
        int[] values = {1, 7, 2, 1, 15, 1, -1, 5, 6, 4};
        for (int i = 0; i < WORDS.length; i++) {
            for (int off = -1; off <= 1; off++) {
                TrainBearers x = inTheMiddle();
                String test = WORDS[i] + "=" + written(values[i] + off);
                C.inForce(x, "tires 0;tires 1 if " + test);
                x.walk(2);
                C.due("tires 1 if " + test, x.of(1, 1), off == 0 ? 3 : 2);
                C.due("who holds none", x.of(0, 1), 0);
            }
        }
    }

    private static void wordsOfBrings() {
        C.under("\"brings\" of a YARD that dips and how much (girl, strong, tired, stiles -1)");
        // 15 and 1 less 7 less 2.
        int[] values = {-1, -1, -1, 1, 15, 1, 11, -1, 6, 4};
        for (int i = 0; i < WORDS.length; i++) {
            for (int off = -1; off <= 1; off++) {
                TrainBearers x = inTheMiddle();
                String test = WORDS[i] + "=" + written(values[i] + off);
                C.inForce(x, "brings 0;brings 1 if " + test);
                C.due("brings 1 if " + test, x.at(1, 4), off == 0 ? 1 : 0);
            }
        }
    }

    private static void clauseHolds() {
        C.under("A CLAUSE HOLDS, if its \"if\" (if it has one) is so, and neither that nor its SUM is BROKEN");
        String[][] cases = {{"lifts 2", "2"}, {"lifts 2 if 1=1", "2"}, {"lifts 2 if 1=2", "4"}, {"lifts 2 if 1/0=1", "4"},
            {"lifts 2/0", "4"}, {"lifts 2/0 if 1=1", "4"}, {"lifts 2/0 if 1/0=1", "4"}, {"lifts 2;lifts 3", "3"},
            {"lifts 2;lifts 3 if 1=2", "2"}, {"lifts 2;lifts 3/0", "2"}, {"lifts 2;lifts 3 if 1%0=0", "2"},
            {"lifts 2 if 1=1;lifts 3 if 1=1;lifts 5 if 1=2", "3"}, {"lifts 2;tires 3;brings 9;bars", "2"},
            {"tires 3;brings 9;bars", "4"}, {"lifts 3;lifts 2;lifts 1", "1"}};
        for (String[] c : cases) {
            TrainBearers x = Checks.made(Checks.yards(20), 4);
            C.inForce(x, c[0]);
            C.due(c[0], x.asks(0, 0, 0), Integer.parseInt(c[1]));
        }
    }

    private static final String[] SUMS = {"0", "1", "0-1", "8", "9", "10", "19", "20", "21", "98", "99", "100", "1000",
        "1000*1000*1000", "0-1000*1000*1000"};
    private static final int[] SUM_VALUES = {0, 1, -1, 8, 9, 10, 19, 20, 21, 98, 99, 100, 1000, 1000000000, -1000000000};

    private static int nearest(int value, int most) {
        return value < 0 ? 0 : value > most ? most : value;
    }

    private static void lifts() {
        C.under("A GIRL LIFTS 0 .. 20 of a YARD as the last \"lifts\" that HOLDS tells (else the nearest)");
        for (int i = 0; i < SUMS.length; i++) {
            TrainBearers x = Checks.made(Checks.yards(20), 4);
            C.inForce(x, "lifts " + SUMS[i]);
            C.due("lifts " + SUMS[i], x.asks(0, 0, 0), nearest(SUM_VALUES[i], 20));
            C.due("hold by lifts " + SUMS[i], x.hold(0, 0), 20 - nearest(SUM_VALUES[i], 20));
        }
    }

    private static void liftsWithout() {
        C.under("without STRONG less TIRED (0 at least)");
        TrainBearers x = Checks.made(Checks.yards(20), 5, 0, 9);
        x.lane(0, 1, 0);
        x.hold(0, 0);
        C.due("STRONG 0", x.asks(1, 0, 0), 0);
        C.due("STRONG 9", x.asks(2, 0, 0), 9);
        for (int tired = 0; tired <= 8; tired++) {
            C.due("STRONG 5, TIRED " + tired, x.asks(0, 0, 0), Math.max(0, 5 - tired));
            C.due("by how much it DIPS", x.at(0, 3), 20 + x.at(0, 1) - Math.max(0, 5 - tired));
            x.walk(1 - x.count(4));
        }
    }

    private static int tiredBy(String law, int stiles) {
        TrainBearers x = Checks.made(Checks.yards(20), 4);
        if (!law.isEmpty()) {
            C.inForce(x, law);
        }
        x.lane(0, 1, stiles);
        x.hold(0, 0);
        x.walk(1);
        return x.of(0, 1);
    }

    private static void tires() {
        C.under("she TIRES 0 .. 9 on a LANE");
        for (int i = 0; i < SUMS.length; i++) {
            C.due("tires " + SUMS[i], tiredBy("tires " + SUMS[i], 3), nearest(SUM_VALUES[i], 9));
        }
        C.due("the last that HOLDS", tiredBy("tires 2;tires 5;tires 7 if 1=2;tires 1/0", 3), 5);
    }

    private static void tiresWithout() {
        C.under("without STILES and 1");
        for (int stiles = 0; stiles <= 9; stiles++) {
            C.due("STILES " + stiles, tiredBy("", stiles), Math.min(9, stiles + 1));
            C.due("STILES " + stiles + ", no CLAUSE that HOLDS", tiredBy("tires 3 if 1=2;lifts 2", stiles), Math.min(9, stiles + 1));
        }
    }

    private static void brings() {
        C.under("a DIP BRINGS 0 .. 99");
        for (int i = 0; i < SUMS.length; i++) {
            TrainBearers x = Checks.made(Checks.yards(20), 4);
            C.inForce(x, "brings " + SUMS[i]);
            x.lane(0, 1, 0);
            int want = nearest(SUM_VALUES[i], 99);
            C.due("at(0, 4) by brings " + SUMS[i], x.at(0, 4), want);
            C.due("compare(0) by brings " + SUMS[i], x.compare(0), want);
            C.due("walk(1) by brings " + SUMS[i], x.walk(1), want);
            C.due("FATE by brings " + SUMS[i], x.count(3), want);
            C.due("MUD by brings " + SUMS[i], x.at(0, 1), 1);
        }
        TrainBearers x = Checks.made(Checks.yards(4), 3, 4, 5);
        C.inForce(x, "brings 50");
        x.hold(0, 0);
        C.due("a DIP of 1", x.at(0, 4), 50);
        x.drop(0);
        x.hold(1, 0);
        C.due("what does not DIP", x.at(0, 4), 0);
    }

    private static void bringsWithout() {
        C.under("without as much as it is");
        TrainBearers x = Checks.made(Checks.yards(1, 20), 1);
        C.due("a DIP of 1", x.at(0, 4), 1);
        C.due("a DIP of 20", x.at(1, 4), 20);
        x.lane(0, 1, 0);
        for (int i = 0; i < 9; i++) {
            x.walk(1 - x.count(4));
        }
        C.due("a DIP of 29", x.at(1, 4), 29);
        TrainBearers y = Checks.made(Checks.yards(1), 1);
        y.hold(0, 0);
        C.due("a DIP of 0", y.at(0, 4), 0);
    }

    private static void barred() {
        C.under("a GIRL is BARRED from a YARD, if \"bars\" HOLDS");
        String[][] cases = {{"bars", "1"}, {"bars if 1=1", "1"}, {"bars if 1=2", "0"}, {"bars if 1/0=0", "0"},
            {"bars;bars if 1=2", "1"}, {"bars if 1=2;bars", "1"}, {"bars if 1/0=0;bars", "1"}, {"lifts 0", "0"},
            {"bars if girl=1;bars if yard=1", "0"}, {"bars if girl=0;bars if yard=1", "1"}};
        for (String[] c : cases) {
            TrainBearers x = Checks.made(Checks.yards(20), 4);
            C.inForce(x, c[0]);
            C.due(c[0], x.asks(0, 0, 1), Integer.parseInt(c[1]));
            C.due("hold by " + c[0], x.hold(0, 0), c[1].equals("1") ? -3 : 20 - x.asks(0, 0, 0));
        }
    }

    private static void dips() {
        C.under("A YARD DIPS by HEAVY and MUD less what those who hold it LIFT (0 at least)");
        for (int strong = 3; strong <= 9; strong++) {
            TrainBearers x = Checks.made(Checks.yards(5), strong);
            C.due("hold by STRONG " + strong, x.hold(0, 0), Math.max(0, 5 - strong));
            C.due("at(0, 3) by STRONG " + strong, x.at(0, 3), Math.max(0, 5 - strong));
        }
        TrainBearers x = Checks.made(Checks.yards(20), 9, 9, 9);
        x.hold(0, 0);
        x.hold(1, 0);
        C.due("two of 9", x.at(0, 3), 2);
        C.inForce(x, "lifts 10");
        C.due("two of 10", x.at(0, 3), 0);
        C.inForce(x, "lifts 11");
        C.due("two of 11", x.at(0, 3), 0);
        x.force(NONE);
        x.lane(0, 1, 0);
        x.walk(1);
        // 20 and 1 less two of 9 less 1.
        C.due("with MUD", x.at(0, 3), 5);
    }

    private static void times() {
        C.under("TIMES: a NUMBER 1 .. 20");
        Object[][] cases = {{"rest", 1}, {"rest times 1", 1}, {"rest times 2", 2}, {"rest times 19", 19},
            {"rest times 20", 20}, {"rest times 020", 20}, {"rest times 0001", 1}};
        for (Object[] c : cases) {
            TrainBearers x = new TrainBearers();
            C.accepted("" + c[0], x, (Integer) c[1], () -> Checks.orders(x, (String) c[0]));
            C.due("the HOUR", x.count(15), (Integer) c[1]);
        }
        for (String not : new String[] {"0", "21", "00", "021", "1000", "4294967297", "18446744073709551617", "hour", "[1]"}) {
            TrainBearers x = new TrainBearers();
            C.refused("rest times " + not, x, -6, () -> Checks.orders(x, "rest times " + not));
            C.due("fault()", x.fault(), 11);
        }
    }

    private static void yardsAndGirlsInOrders() {
        C.under("\"dip\" Y | \"tired\" G (Y, G: a NUMBER 0 .. 7)");
        for (String word : new String[] {"dip", "tired"}) {
            for (String can : new String[] {"0", "1", "6", "7", "07"}) {
                TrainBearers x = new TrainBearers();
                C.accepted(word + " " + can, x, 1, () -> Checks.orders(x, "rest if " + word + " " + can + "=0-1"));
            }
            for (String not : new String[] {"8", "9", "10", "1000", "4294967296", "hour", "[0]", "="}) {
                TrainBearers x = new TrainBearers();
                C.refused(word + " " + not, x, -6, () -> Checks.orders(x, "rest if " + word + " " + not + "=0-1"));
                C.due("fault()", x.fault(), 9 + word.length());
            }
        }
    }

    private static void dipWithoutSuchAYard() {
        C.under("dip, tired: -1 without such a YARD, GIRL");
        for (int n = 0; n <= 8; n++) {
            TrainBearers x = new TrainBearers();
            for (int i = 0; i < n; i++) {
                x.yard(i + 1);
                x.girl(0);
            }
            for (int i = 0; i < 8; i++) {
                String dip = i < n ? "" + (i + 1) : "0-1";
                String tired = i < n ? "0" : "0-1";
                C.due("dip " + i + " of " + n, Checks.orders(x, "rest if dip " + i + "=" + dip), 1);
                C.due("tired " + i + " of " + n, Checks.orders(x, "rest if tired " + i + "=" + tired), 1);
            }
        }
    }

    private static void done() {
        C.under("done: how many were run in this TEXT");
        TrainBearers x = Checks.made(Checks.yards(5), 4);
        C.due("0 at first", Checks.orders(x, "rest if done=0"), 1);
        C.due("0 in the next TEXT, too", Checks.orders(x, "rest if done=0"), 1);
        C.due("each time", Checks.orders(x, "rest times 3;rest if done=3;rest if done=3"), 4);
        C.due("within TIMES", Checks.orders(x, "rest times 20 if done<7"), 7);
        C.due("those not run are not counted", Checks.orders(x, "rest if 1=2;rest times 5 if 1/0=0;rest if done=0"), 1);
        C.due("of all kinds", Checks.orders(x, "hold 0 at 0;drop 0;rest if done=2"), 3);
        C.due("none", Checks.orders(x, "rest if done=1"), 0);
    }

    private static void latest() {
        C.under("latest: what the latest walk in it told (-1: none)");
        TrainBearers x = Checks.made(Checks.yards(5), 9);
        x.lane(0, 1, 0);
        x.walk(1);
        C.due("none in it", Checks.orders(x, "rest if latest=0-1"), 1);
        C.due("one", Checks.orders(x, "walk 0;rest if latest=6"), 2);
        C.due("none in the next TEXT", Checks.orders(x, "rest if latest=0-1"), 1);
        C.due("the latest of two", Checks.orders(x, "walk 1;walk 0;rest if latest=8"), 3);
        C.due("not run", Checks.orders(x, "walk 1 if 1=2;rest if latest=0-1"), 1);
        C.due("of others nothing", Checks.orders(x, "walk 1;hold 0 at 0;rest;drop 0;rest if latest=9"), 5);
        C.due("it told 1, not 0", Checks.orders(x, "hold 0 at 0;walk 0;rest if latest=0"), 2);
        C.inForce(x, "lifts 20");
        C.due("it told 0", Checks.orders(x, "walk 1;rest if latest=0"), 2);
    }

    private static void wordsOfOrders() {
        C.under("place: where the train is");
        TrainBearers x = Checks.made(Checks.yards(5), 9);
        x.lane(0, 5, 2);
        C.due("place 0", Checks.orders(x, "rest if place=0"), 1);
        C.due("place 5", Checks.orders(x, "walk 5;rest if place=5"), 2);
        C.due("fate", Checks.orders(x, "rest if fate=5"), 1);
        C.due("hour 3, then 4", Checks.orders(x, "rest times 2 if hour=3"), 1);
        x.terms(0, 998);
        C.due("hour 998, then 999", Checks.orders(x, "rest times 20 if hour<999;hold 0 at 0 if hour=999"), 2);
        C.due("tired 0", Checks.orders(x, "walk 0 if tired 0=0;drop 0 if tired 0=3"), 2);
    }

    private static void ifIsAskedEachTime() {
        C.under("each time its \"if\" is asked (not run, if it is not so or BROKEN)");
        TrainBearers x = new TrainBearers();
        C.due("as long as it is so", Checks.orders(x, "rest times 20 if hour<5"), 5);
        C.due("the HOUR", x.count(15), 5);
        C.due("not so", Checks.orders(x, "rest times 20 if hour<5"), 0);
        C.due("BROKEN", Checks.orders(x, "rest times 20 if 1/0=0"), 0);
        C.due("stopped()", x.stopped(), NONE);
        // It is broken at hour 7 alone, and then the hour stays.
        C.due("BROKEN at the third", Checks.orders(x, "rest times 20 if 1/[7-hour]<9"), 2);
        C.due("the HOUR then", x.count(15), 7);
        C.due("its SUM is not asked, then", Checks.orders(x, "drop 1/0 if 1=2;drop 1/0 if 1/0=0"), 0);
    }

    private static void sumsAreAskedEachTime() {
        C.under("then its SUMS from the left");
        TrainBearers x = Checks.made(Checks.yards(5, 5), 1, 1);
        x.lane(0, 1, 0);
        C.due("to and fro", Checks.orders(x, "walk 1-place times 3"), 3);
        C.due("PLACE", x.count(4), 1);
        C.due("girl by girl", Checks.orders(x, "hold done at 1-done times 2"), 2);
        C.due("YARD of GIRL 0", x.of(0, 2), 1);
        C.due("YARD of GIRL 1", x.of(1, 2), 0);
        C.due("one too many", Checks.orders(x, "drop done times 3"), -3);
        C.due("just enough", Checks.orders(x, "drop done times 2"), 2);
    }

    private static void oneThatCannotBe() {
        C.under("One that can't be (a BROKEN SUM, as hold(), drop(), walk(), rest() are REFUSED) ends it");
        String[] not = {"hold 3 at 0", "hold 0 at 2", "hold 0-1 at 0", "hold 0 at 0-1", "hold 0 at 0", "hold 2 at 0", "hold 2 at 1",
            "drop 3", "drop 0-1", "drop 2", "walk 6", "walk 0-1", "walk 0", "walk 2", "hold 1/0 at 1", "hold 2 at 1/0",
            "drop 1/0", "walk 1%0", "hold 1/0 at 1/0"};
        for (String one : not) {
            for (int ahead = 0; ahead <= 11; ahead++) {
                TrainBearers x = Checks.made(Checks.yards(5, 5), 1, 1, 1);
                x.lane(0, 1, 0);
                x.hold(0, 0);
                x.hold(1, 0);
                C.inForce(x, "bars if girl=2 and yard=1");
                String text = "rest;".repeat(ahead) + one;
                if (ahead == 0 || ahead == 11) {
                    C.refused(text, x, -3, () -> Checks.orders(x, text));
                } else {
                    C.due(text, Checks.orders(x, text), -3);
                }
                C.due("stopped() of " + text, x.stopped(), ahead);
                C.due("fault() of " + text, x.fault(), NONE);
                C.due("the TAPE behind " + text, x.count(8), 0);
                C.due("the HOUR behind " + text, x.count(15), 0);
            }
        }
    }

    private static void allAsItWasAheadOfIt() {
        C.under("ends it: all is as it was ahead of it");
        TrainBearers x = Checks.made(Checks.yards(5, 9), 4, 6);
        x.lane(0, 1, 2);
        x.terms(0, 979);
        C.accepted("twenty up to 999", x, 20, () -> Checks.orders(x, "rest times 20"));
        C.due("the HOUR", x.count(15), 999);
        C.refused("one more", x, -3, () -> Checks.orders(x, "rest"));
        x.terms(0, 980);
        x.hold(0, 0);
        x.walk(1);
        C.refused("the twentieth is one too many", x, -3, () -> Checks.orders(x, "rest times 20"));
        C.due("stopped()", x.stopped(), 0);
        C.refused("all kinds, then one too many", x, -3,
            () -> Checks.orders(x, "walk 0;drop 0;hold 1 at 1;walk 1;rest times 19;walk 0;rest"));
        C.due("stopped() at the last", x.stopped(), 6);
        C.due("what can be undone", x.count(7), 2);
        C.due("the walk", x.undo(), 2);
        C.due("the hold", x.undo(), 0);
        C.refused("no more", x, -3, x::undo);
        C.accepted("nineteen", x, 19, () -> Checks.orders(x, "rest times 19"));
    }
}
