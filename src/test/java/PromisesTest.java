/** Each promise of the document by its number: ordinary inputs, the edges it names, wrong inputs. */
public final class PromisesTest {
    private static final int NONE = TrainBearers.NONE;
    private static final Checks C = new Checks("PromisesTest");

    private PromisesTest() {
    }

    public static void main(String[] args) {
        promise1NewObject();
        promises2And3Yards();
        promises4To6Girls();
        promises7And8Lanes();
        promise9Terms();
        promises10And11Tape();
        promises12And13Row();
        promise14Law();
        promise14LawTells();
        promise14LawBroken();
        promise14LawLimits();
        promise15Orders();
        promise15OrdersWhollyOrNot();
        promise16Fault();
        promise17Stopped();
        promise18Force();
        promise19Hold();
        promise20Drop();
        promise21Walk();
        promise21WalkAsksAhead();
        promise22Rest();
        promise23Undo();
        promise23UndoEnds();
        promise24Borne();
        promise25Exchanged();
        promises26And27Seen();
        promises28And29LetGo();
        promises30And31Way();
        promise31BroughtAtTheMost();
        promise32Folds();
        promise33Resting();
        promise34Far();
        promise35Steady();
        promise36Compare();
        promises37And38Generations();
        promises39And40Images();
        promise40WhatImagesLeave();
        promise41Count();
        promise42Status();
        C.finish();
    }

    private static void due(String call, long got, long want) {
        C.due(call, got, want);
    }

    private static TrainBearers made(int[] heavy, int... strong) {
        return Checks.made(heavy, strong);
    }

    private static int[] yards(int... heavy) {
        return heavy;
    }

    private static void inForce(TrainBearers x, String law) {
        C.inForce(x, law);
    }

    private static void promise1NewObject() {
        TrainBearers x = new TrainBearers();
        int[] first = {0, 0, 0, 0, 0, 0, 0, 0, 0, 0, 0, 0, 0, 0, NONE, 0, 1, 0};
        for (int what = 0; what < first.length; what++) {
            due("1: count(" + what + ")", x.count(what), first[what]);
        }
        for (int a = 0; a < 6; a++) {
            for (int b = 0; b < 6; b++) {
                due("1: stiles(" + a + ", " + b + ")", x.stiles(a, b), NONE);
            }
        }
        due("1: fault()", x.fault(), NONE);
        due("1: stopped()", x.stopped(), NONE);
        due("1: puddles()", x.puddles(), 0);
        due("1: status()", x.status(), 0);
        due("1: undo()", x.undo(), -3);
        due("1: back(0)", x.back(0), -2);
        due("1: drawn(0, 2)", x.drawn(0, 2), NONE);
        due("1: drawn(0, 0)", x.drawn(0, 0), NONE);
    }

    private static void promises2And3Yards() {
        TrainBearers x = new TrainBearers();
        due("2: yard(0)", x.yard(0), -1);
        due("2: yard(21)", x.yard(21), -1);
        for (int y = 0; y < 8; y++) {
            due("2: yard", x.yard(y == 0 ? 20 : y), y);
        }
        due("2: the ninth yard", x.yard(1), -5);
        due("2: a bad one ahead of no room", x.yard(-7), -1);
        x.girl(4);
        x.girl(9);
        x.hold(0, 3);
        x.hold(1, 3);
        due("3: heavy", x.at(0, 0), 20);
        due("3: mud", x.at(0, 1), 0);
        due("3: who holds", x.at(3, 2), 3);
        due("3: who holds one that none holds", x.at(2, 2), 0);
        due("3: dips by 0 at least", x.at(3, 3), 0);
        due("3: dips", x.at(0, 3), 20);
        due("3: brings", x.at(0, 4), 20);
        due("3: what 5", x.at(0, 5), NONE);
        due("3: what -1", x.at(0, -1), NONE);
        due("3: yard 8", x.at(8, 0), NONE);
        due("3: yard -1", x.at(-1, 0), NONE);
    }

    private static void promises4To6Girls() {
        TrainBearers x = new TrainBearers();
        due("4: girl(-1)", x.girl(-1), -1);
        due("4: girl(10)", x.girl(10), -1);
        for (int g = 0; g < 8; g++) {
            due("4: girl", x.girl(g == 7 ? 9 : g), g);
        }
        due("4: the ninth girl", x.girl(0), -5);
        due("4: a bad one ahead of no room", x.girl(10), -1);
        due("5: strong", x.of(7, 0), 9);
        due("5: tired", x.of(7, 1), 0);
        due("5: holds none", x.of(7, 2), NONE);
        due("5: what 3", x.of(7, 3), NONE);
        due("5: girl 8", x.of(8, 0), NONE);
        due("6: no yard", x.asks(7, 0, 0), NONE);
        x.yard(5);
        due("6: lifts", x.asks(7, 0, 0), 9);
        due("6: not barred", x.asks(7, 0, 1), 0);
        due("6: what 2", x.asks(7, 0, 2), NONE);
        due("6: no girl", x.asks(8, 0, 0), NONE);
        inForce(x, "bars if girl > 5");
        due("6: barred", x.asks(6, 0, 1), 1);
        due("6: not barred by it", x.asks(5, 0, 1), 0);
    }

    private static void promises7And8Lanes() {
        TrainBearers x = new TrainBearers();
        due("7: lane", x.lane(0, 5, 9), NONE);
        due("7: what there was", x.lane(5, 0, 0), 9);
        due("8: both ways", x.stiles(0, 5), 0);
        due("7: none again", x.lane(0, 5, NONE), 0);
        due("7: status", x.status(), 0);
        due("8: none", x.stiles(5, 0), NONE);
        due("7: none where none was", x.lane(0, 5, NONE), NONE);
        due("7: status of that", x.status(), 0);
        due("7: one alone", x.lane(3, 3, 1), -1);
        due("7: status of one alone", x.status(), -1);
        x.lane(0, 1, 10);
        x.lane(0, 1, -2);
        x.lane(-1, 1, 1);
        x.lane(1, 6, 1);
        due("7: refused by -1", x.count(9), 5);
        due("8: one alone", x.stiles(3, 3), NONE);
        due("8: no place", x.stiles(6, 0), NONE);
        due("8: no place either", x.stiles(0, -1), NONE);
    }

    private static void promise9Terms() {
        TrainBearers x = new TrainBearers();
        due("9: hour", x.terms(0, 999), 0);
        due("9: stumble", x.terms(1, 10), 1);
        due("9: mood", x.terms(2, 9), 0);
        due("9: hour was", x.terms(0, 0), 999);
        due("9: stumble was", x.terms(1, 0), 10);
        due("9: mood was", x.terms(2, 0), 9);
        int[][] bad = {{0, 1000}, {0, -1}, {1, 11}, {1, -1}, {2, 10}, {2, -1}, {3, 0}, {-1, 0}};
        for (int[] b : bad) {
            due("9: terms(" + b[0] + ", " + b[1] + ")", x.terms(b[0], b[1]), -1);
        }
        due("9: refused", x.count(9), bad.length);
    }

    private static void promises10And11Tape() {
        TrainBearers x = new TrainBearers();
        for (int i = 1; i <= 20; i++) {
            due("10: feed", x.feed(0x6c696674, 0x73202d31, -1, 0, 7), 20 * i);
        }
        due("10: more than 400", x.feed(0, 0, 0, 0, 0), NONE);
        due("10: as many as ahead", x.count(8), 400);
        due("11: more than it has", x.end(401), NONE);
        due("11: below 0", x.end(-1), NONE);
        due("11: all", x.end(400), 400);
        due("11: some", x.end(381), 381);
        due("10: one too many", x.feed(0, 0, 0, 0, 0), NONE);
        due("11: fewer", x.end(380), 380);
        due("10: just enough", x.feed(0, 0, 0, 0, 0), 400);
        due("11: not refused", x.count(9), 0);
        // The highest byte first: 1 2 5, 0 3 9.
        x.end(0);
        x.feed(0x01020500, 0x03090000, 0, 0, 0);
        x.end(6);
        due("10: highest first", x.row(), 2);
        due("10: first lane", x.stiles(1, 2), 5);
        due("10: second lane", x.stiles(0, 3), 9);
    }

    private static void promises12And13Row() {
        TrainBearers x = new TrainBearers();
        due("12: empty", x.row(), -6);
        due("13: ahead of any", x.puddles(), 0);
        due("12: lanes", Checks.row(x, 0, 1, 9, 1, 2, 10, 2, 2, 1, 6, 0, 1, 0, 6, 1, 4, 5, 0, 0, 1, 255, 1), 3);
        due("12: the tape is empty", x.count(8), 0);
        due("13: puddles", x.puddles(), 5);
        due("12: told last", x.stiles(1, 0), NONE);
        due("12: other lane", x.stiles(5, 4), 0);
        due("12: above 9", x.stiles(1, 2), NONE);
        due("12: empty again", x.row(), -6);
        due("13: still those", x.puddles(), 5);
        due("12: only a puddle", Checks.row(x, 0, 1), 0);
        due("13: one", x.puddles(), 1);
        due("12: 254 is none", Checks.row(x, 0, 1, 254), 0);
        due("12: good ones alone", Checks.row(x, 0, 1, 3), 1);
        due("13: no puddle", x.puddles(), 0);
    }

    private static void promise14Law() {
        TrainBearers x = new TrainBearers();
        for (int i = 0; i < 6; i++) {
            due("14: number", Checks.law(x, "bars if mood=" + i), i);
            due("14: the tape is empty", x.count(8), 0);
        }
        due("14: no fault", x.fault(), NONE);
        due("14: no room", Checks.law(x, "what"), -5);
        due("14: no fault, unread", x.fault(), NONE);
        due("14: the tape is empty then, too", x.count(8), 0);
        x = new TrainBearers();
        due("14: bad", Checks.law(x, "lifts 1;"), -6);
        due("14: the tape is empty behind a bad one", x.count(8), 0);
        due("14: none is kept", x.count(6), 0);
        due("14: blanks alone", Checks.law(x, "   "), -6);
        due("14: fault at the end", x.fault(), 3);
        due("14: nothing", Checks.law(x, ""), -6);
        due("14: fault at 0", x.fault(), 0);
    }

    private static void promise14LawTells() {
        TrainBearers x = made(yards(10, 20), 3, 9);
        inForce(x, "lifts 7;lifts 2 if girl=1;lifts 0-5 if yard=1;lifts 30 if yard=1 and girl=1");
        due("14: the first alone", x.asks(0, 0, 0), 7);
        due("14: the last that holds", x.asks(1, 0, 0), 2);
        due("14: nearest to below 0", x.asks(0, 1, 0), 0);
        due("14: nearest to above 20", x.asks(1, 1, 0), 20);
        inForce(x, "lifts girl*100+dip+stiles+20 if dip=0-1 and stiles=0-1");
        due("14: dip, stiles are -1 for lifts", x.asks(0, 0, 0), 18);
        inForce(x, "brings 50 if girl+strong+tired+stiles=0-4 and heavy=10 and mud=0;brings 500 if yard=1");
        due("14: girl, strong, tired, stiles are -1 for brings", x.at(0, 4), 50);
        due("14: 99 at most", x.at(1, 4), 99);
        inForce(x, "brings 0-1");
        due("14: 0 at least", x.at(1, 4), 0);
        inForce(x, "brings 9");
        x.lane(0, 1, 9);
        x.hold(1, 0);
        x.hold(0, 0);
        due("14: a yard that does not dip", x.at(0, 3), 0);
        due("14: brings nothing", x.at(0, 4), 0);
        inForce(x, "tires stiles*10+dip+2;tires 0-3 if girl=1 and yard=0 and heavy=10 and strong=9");
        x.walk(1);
        due("14: tires 9 at most", x.of(0, 1), 9);
        due("14: tires 0 at least", x.of(1, 1), 0);
        x = made(yards(10), 3);
        inForce(x, "tires dip+3 if dip<0");
        x.lane(0, 1, 9);
        x.hold(0, 0);
        x.walk(1);
        due("14: dip is -1 for tires", x.of(0, 1), 2);
        x = made(yards(10), 3);
        inForce(x, "lifts hour*2+mood");
        x.terms(0, 5);
        x.terms(2, 3);
        due("14: hour and mood", x.asks(0, 0, 0), 13);
    }

    private static void promise14LawBroken() {
        TrainBearers x = made(yards(10), 3);
        String[] broken = {"lifts 5;lifts 1/0", "lifts 5;lifts 1%[girl]", "lifts 5;lifts 1000*1000*1000+1",
            "lifts 5;lifts 0-1000*1000*1000-1", "lifts 5;lifts 9 if 1/0=1", "lifts 5;lifts 9 if not 1/0=1",
            "lifts 5;lifts 9 if 1=2 or 1/0=0", "lifts 5;lifts 9 if 1=1 and 1/0=0", "lifts 5;lifts 9 if 1/0=0 or 1=1",
            "lifts 5;lifts [1000*1000*1000+1]*0", "lifts 5;lifts 1000*1000*1000*2/1000"};
        for (String law : broken) {
            TrainBearers b = made(yards(10), 3);
            inForce(b, law);
            due("14: " + law, b.asks(0, 0, 0), 5);
        }
        String[][] told = {{"lifts 1000*1000*1000-1000*1000*999-1000*999-995", "5"}, {"lifts 9 if 1=1 or 1/0=0", "9"},
            {"lifts 9 if not(1=2 and 1/0=0)", "9"}, {"lifts [0-7]/2+10", "7"}, {"lifts [0-7]%2+10", "9"},
            {"lifts 7-2-1", "4"}, {"lifts 2+3*4", "14"}, {"lifts 100/10/5", "2"}, {"lifts 17%10*2", "14"},
            {"lifts 9 if 1=2 and 1=2 or 1=1", "9"}, {"lifts 9 if 1=1 or 1=1 and 1=2", "9"},
            {"lifts 9 if not 1=2 and 1=2", "3"}, {"lifts 9 if not not not 1=2", "9"}, {"lifts 9 if 1<2", "9"},
            {"lifts 9 if 2<2", "3"}, {"lifts 9 if 2>2", "3"}, {"lifts 9 if 3>2", "9"}, {"lifts001000/0100", "10"},
            {"lifts 1000 * 1000 * 1000 / 1000 / 1000 / 100", "10"}};
        for (String[] t : told) {
            TrainBearers b = made(yards(10), 3);
            inForce(b, t[0]);
            due("14: " + t[0], b.asks(0, 0, 0), Long.parseLong(t[1]));
        }
        inForce(x, "bars if 1/0=1");
        due("14: broken bars", x.asks(0, 0, 1), 0);
    }

    private static void promise14LawLimits() {
        TrainBearers x = new TrainBearers();
        due("14: 50 parts", Checks.law(x, "lifts 1" + "+1".repeat(49)), 0);
        due("14: 51 parts", Checks.law(x, "lifts 1" + "+1".repeat(50)), -6);
        due("14: fault at the 51st", x.fault(), 6 + 100);
        due("14: 51 over clauses", Checks.law(x, "lifts girl" + "+1".repeat(24) + ";lifts 1" + "+1".repeat(25)), -6);
        due("14: fault at the last", x.fault(), 10 + 48 + 1 + 7 + 49);
        due("14: 12 clauses", Checks.law(x, "bars" + ";bars".repeat(11)), 1);
        due("14: 13 clauses", Checks.law(x, "bars" + ";bars".repeat(12)), -6);
        due("14: fault at the 13th", x.fault(), 60);
        due("14: a 12th with a sign behind", Checks.law(x, "bars" + ";bars".repeat(11) + "; "), -6);
        due("14: fault at the end", x.fault(), 61);
        due("14: 8 brackets", Checks.law(x, "lifts " + "[".repeat(8) + "1" + "]".repeat(8)), 2);
        due("14: 9 brackets", Checks.law(x, "lifts " + "[".repeat(9) + "1" + "]".repeat(9)), -6);
        due("14: fault at the 9th", x.fault(), 14);
        due("14: 8 of both kinds", Checks.law(x, "bars if ((((([[[1]]]=1)))))"), 3);
        due("14: 9 of both kinds", Checks.law(x, "bars if ((((([[[[1]]]]=1)))))"), -6);
        due("14: fault at the 9th of both", x.fault(), 16);
        due("14: 9 one behind the other", Checks.law(x, "lifts [1]+[1]+[1]+[1]+[1]+[1]+[1]+[1]+[1]"), 4);
        due("14: 400 bytes of not", Checks.law(x, "bars if " + "not ".repeat(97) + "1=2"), 5);
    }

    private static void promise15Orders() {
        TrainBearers x = made(yards(5, 9), 4, 6);
        x.lane(0, 1, 2);
        due("15: run", Checks.orders(x, "hold 0 at 0;hold 1 at 1;walk 1 if dip 0=1 and dip1=3;rest times 2 if latest=4"), 5);
        due("15: the tape is empty", x.count(8), 0);
        due("15: fate", x.count(3), 4);
        due("15: hour", x.count(15), 2);
        due("15: none run", Checks.orders(x, "drop 0 if 1=2"), 0);
        due("15: done and hour", Checks.orders(x, "rest times 20 if done<3;rest if hour=5 and done=3"), 4);
        due("15: if is asked each time", x.count(15), 6);
        due("15: fate, place", Checks.orders(x, "rest if fate=4 and place=1"), 1);
        due("15: tired, none such", Checks.orders(x, "rest if tired 7=0-1 and dip 7=0-1 and tired 1=0"), 1);
        due("15: latest is of this text", Checks.orders(x, "rest if latest=0-1"), 1);
        due("15: a broken if is not so", Checks.orders(x, "rest if 1/0=1;rest"), 1);
        due("15: empty", Checks.orders(x, ""), -6);
        due("15: fault of it", x.fault(), 0);
        due("15: blanks", Checks.orders(x, "  "), -6);
        due("15: fault of them", x.fault(), 2);
        due("15: latest with what is cut off", manyWalks(), 2);
    }

    private static int manyWalks() {
        TrainBearers x = made(yards(20, 20, 20, 20, 20, 20, 20, 20));
        inForce(x, "brings 99");
        x.lane(0, 1, 0);
        Checks.orders(x, "walk 1-place times 20");
        return Checks.orders(x, "walk 1;rest if latest=792 and fate=1000*10-1 and tired 0<0;drop 0 if done=1");
    }

    private static void promise15OrdersWhollyOrNot() {
        TrainBearers x = made(yards(5, 9), 4, 6);
        x.lane(0, 1, 2);
        x.hold(0, 0);
        for (int i = 0; i < 15; i++) {
            x.rest();
        }
        due("15: one can't be", Checks.orders(x, "rest times 20;walk 1;hold 1 at 0;drop 0;walk 5"), -3);
        int[] same = {2, 2, 1, 0, 0, 0, 0, 16};
        for (int what = 0; what < same.length; what++) {
            due("15: as it was: count(" + what + ")", x.count(what), same[what]);
        }
        due("15: the tape is empty", x.count(8), 0);
        due("15: hour as it was", x.count(15), 15);
        due("15: who holds", x.at(0, 2), 1);
        due("15: mud", x.at(0, 1), 0);
        for (int i = 0; i < 15; i++) {
            due("15: undone as ahead", x.undo(), 3);
        }
        due("15: and the first", x.undo(), 0);
        due("15: no more", x.undo(), -3);
        String[] not = {"hold 2 at 0", "hold 0 at 2", "hold 0-1 at 0", "drop 0", "walk 6", "walk 0-1", "walk 2",
            "hold 1/0 at 0", "hold 0 at 1/0", "drop 1000*1000*1000+1", "hold 0 at 0;hold 0 at 0"};
        for (String orders : not) {
            due("15: " + orders, Checks.orders(x, orders), -3);
        }
        x.terms(0, 998);
        due("15: no rest at 999", Checks.orders(x, "rest times 2"), -3);
        due("15: one rest", Checks.orders(x, "rest"), 1);
    }

    private static void promise16Fault() {
        Object[][] laws = {{"lifts 1 2", 8}, {"lifts 1 if", 10}, {"lifts 1 if 1", 12}, {"lifts 1 if 1=", 13},
            {"lifts 1 if 1=1=1", 14}, {"lifts (1)", 6}, {"bars if [1=1]", 10}, {"bars if (1)", 10}, {"Lifts 1", 0},
            {"lifts 1001", 6}, {"lifts 00000000000000000000001000", NONE}, {"lifts 99999999999999999999", 6},
            {"lifts -1", 6}, {"lifts 1+", 8}, {"lifts 1 + + 2", 10}, {"lifts place", 6}, {"lifts done", 6},
            {"bars;bars x", 10}, {";bars", 0}, {"bars;;bars", 5}, {"bars times 2", 5}, {"lifts\t1", 5},
            {"bars if not", 11}, {"bars if 1=1 or", 14}, {"bars if 1=1 and and", 16}, {"barsif1=1", 0},
            {"bars if1=1", NONE}, {"bars if 1=1)", 11}, {"lifts [1)", 8}, {"lifts 1]", 7}, {"bars if (1=1]", 12},
            {"rest", 0}, {"bars if 1 < 2 > 3", 14}, {"bars if not [1]", 15}, {"bars if 1=not 1", 10},
            {"lifts if", 6}, {"lifts dip 1", 10}, {"bars if (", 9}, {"bars if ()", 9}, {"bars \u00e9", 5}};
        for (Object[] l : laws) {
            TrainBearers x = new TrainBearers();
            boolean fine = (Integer) l[1] == NONE;
            due("16: law " + l[0], Checks.law(x, (String) l[0]), fine ? 0 : -6);
            due("16: fault of " + l[0], x.fault(), (Integer) l[1]);
        }
        Object[][] orders = {{"hold 1 at", 9}, {"hold 1 2", 7}, {"rest times", 10}, {"rest times 21", 11},
            {"rest times 0", 11}, {"rest times hour", 11}, {"rest if 1=2 times 2", 12}, {"rest times 2 times 2", 13},
            {"rest 1", 5}, {"rest times 20 if 1=2", NONE}, {"rest if dip=1", 11}, {"rest if dip 8=1", 12},
            {"rest if tired hour=1", 14}, {"rest if girl=1", 8}, {"bars", 0}, {"rest if dip 007=1", NONE},
            {"rest if tired 7=1", NONE}, {"rest times 1+1", 12}, {"hold at 1", 5}, {"rest if 1=2;hold", 16},
            {"rest times 2000", 11}, {"rest if mood=1", 8}};
        for (Object[] o : orders) {
            TrainBearers x = new TrainBearers();
            boolean fine = (Integer) o[1] == NONE;
            due("16: orders " + o[0], Checks.orders(x, (String) o[0]) == -6 ? 1 : 0, fine ? 0 : 1);
            due("16: fault of " + o[0], x.fault(), (Integer) o[1]);
        }
        TrainBearers x = new TrainBearers();
        // Y, G, TIMES are no parts: 50 words with a number behind each can be.
        String fifty = "rest times 2 if dip 0" + "+dip1".repeat(24) + "=tired 2" + "+hour".repeat(24);
        due("16: 50 parts", Checks.orders(x, fifty), 0);
        due("16: 51 parts", Checks.orders(x, fifty + "+dip 1"), -6);
        due("16: fault at the 51st", x.fault(), fifty.length() + 1);
        due("16: 8 brackets behind at", Checks.orders(x, "hold 0 at " + "[".repeat(8) + "0" + "]".repeat(8)), -3);
        due("16: 9 brackets behind at", Checks.orders(x, "hold 0 at " + "[".repeat(9) + "0" + "]".repeat(9)), -6);
        due("16: fault at the 9th", x.fault(), 18);
        Checks.feed(x, "lifts 1+1+1+1+1+1+1+1");
        x.end(6);
        due("16: what end() cut off is no part", x.law(), -6);
        due("16: fault at the end", x.fault(), 6);
        Checks.feed(x, "lifts 1234");
        x.end(8);
        due("16: nor what it cut a number in", x.law(), 0);
        due("16: 400 bytes", Checks.law(x, "bars if 1=" + " ".repeat(389) + "1"), 1);
        due("16: 400 bytes with the fault at the end", Checks.law(x, "bars if 1=" + " ".repeat(390)), -6);
        due("16: which is 400", x.fault(), 400);
        due("16: no fault of what can't be", Checks.orders(x, "drop 0"), -3);
        due("16: none", x.fault(), NONE);
    }

    private static void promise17Stopped() {
        TrainBearers x = made(yards(5), 4);
        due("17: can't be", Checks.orders(x, "rest;rest times 3;drop 0;walk 9"), -3);
        due("17: the third", x.stopped(), 2);
        due("17: a text that can't be", Checks.orders(x, "rest rest"), -6);
        due("17: none of it", x.stopped(), NONE);
        due("17: can't be again", Checks.orders(x, "drop 0"), -3);
        due("17: the first", x.stopped(), 0);
        due("17: not by a call", x.drop(0), -3);
        due("17: still the first", x.stopped(), 0);
        due("17: all run", Checks.orders(x, "rest"), 1);
        due("17: none then", x.stopped(), NONE);
    }

    private static void promise18Force() {
        TrainBearers x = new TrainBearers();
        due("18: no such law", x.force(0), -2);
        due("18: none for none", x.force(NONE), NONE);
        due("18: status of it", x.status(), 0);
        Checks.law(x, "bars");
        Checks.law(x, "lifts 1");
        due("18: first", x.force(0), NONE);
        due("18: second", x.force(1), 0);
        due("18: not there", x.force(2), -2);
        due("18: below none", x.force(-2), -2);
        due("18: still the second", x.count(14), 1);
        due("18: none", x.force(NONE), 1);
        due("18: none is in force", x.count(14), NONE);
    }

    private static void promise19Hold() {
        TrainBearers x = made(yards(20, 5), 4, 9, 2);
        due("19: dips", x.hold(0, 0), 16);
        due("19: again", x.hold(0, 0), -3);
        due("19: the second", x.hold(1, 0), 7);
        due("19: the third", x.hold(2, 0), -3);
        due("19: she lets go", x.hold(0, 1), 1);
        due("19: the other one", x.at(0, 2), 2);
        due("19: no girl", x.hold(3, 0), -2);
        due("19: no yard", x.hold(0, 2), -2);
        due("19: below 0", x.hold(-1, 0), -2);
        due("19: below 0 too", x.hold(0, -1), -2);
        inForce(x, "bars if girl=2 and yard=1;lifts 20");
        due("19: barred", x.hold(2, 1), -3);
        due("19: not barred there", x.hold(2, 0), 0);
        inForce(x, "bars");
        due("19: who is barred later holds on", x.of(2, 2), 0);
    }

    private static void promise20Drop() {
        TrainBearers x = made(yards(20, 5), 4);
        due("20: holds none", x.drop(0), -3);
        x.hold(0, 1);
        due("20: the yard", x.drop(0), 1);
        due("20: none now", x.of(0, 2), NONE);
        due("20: again", x.drop(0), -3);
        due("20: no girl", x.drop(1), -2);
        due("20: below 0", x.drop(-1), -2);
    }

    private static void promise21Walk() {
        TrainBearers x = made(yards(5, 3), 4, 6, 9);
        x.lane(0, 1, 2);
        x.hold(0, 0);
        x.hold(1, 1);
        due("21: no place", x.walk(6), -1);
        due("21: below 0", x.walk(-1), -1);
        due("21: no lane", x.walk(2), -3);
        due("21: where it is", x.walk(0), -3);
        due("21: brought", x.walk(1), 1);
        due("21: fate", x.count(3), 1);
        due("21: place", x.count(4), 1);
        due("21: mud of what dips", x.at(0, 1), 1);
        due("21: no mud else", x.at(1, 1), 0);
        due("21: tired", x.of(0, 1), 3);
        due("21: who holds none is not", x.of(2, 1), 0);
        x = made(yards(20, 20, 20, 20, 20, 20, 20, 20), 0);
        inForce(x, "brings 99");
        x.lane(0, 1, 9);
        x.hold(0, 0);
        for (int i = 1; i <= 12; i++) {
            due("21: 792", x.walk(i % 2), 792);
            due("21: fate", x.count(3), 792 * i);
        }
        due("21: what is cut off, too", x.walk(1), 792);
        due("21: 9,999 at most", x.count(3), 9999);
        due("21: mud 9 at most", x.at(0, 1), 9);
        due("21: tired 9 at most", x.of(0, 1), 9);
        due("21: undone from 9,999", x.undo(), 2);
        due("21: fate ahead of it", x.count(3), 12 * 792);
    }

    private static void promise21WalkAsksAhead() {
        TrainBearers x = made(yards(10, 10), 5, 5);
        x.lane(0, 1, 1);
        x.hold(0, 0);
        x.hold(1, 1);
        inForce(x, "tires mud*3+tired+1;brings dip+mud*10");
        due("21: first", x.walk(1), 10);
        due("21: tired by mud ahead", x.of(0, 1), 1);
        // Both yards dip by 10 and 1 less 5 less 1.
        due("21: second", x.walk(0), 2 * (7 + 10));
        due("21: tired by what was ahead", x.of(0, 1), 1 + 3 + 1 + 1);
        due("21: a dip that brings nothing", dipForNothing(), 1);
    }

    private static int dipForNothing() {
        TrainBearers x = made(yards(4));
        inForce(x, "brings 0");
        x.lane(0, 1, 1);
        due("21: nothing", x.walk(1), 0);
        return x.at(0, 1);
    }

    private static void promise22Rest() {
        TrainBearers x = made(yards(5), 4, 3);
        x.lane(0, 1, 1);
        x.hold(0, 0);
        x.walk(1);
        due("22: hour", x.rest(), 1);
        due("22: one less", x.of(0, 1), 1);
        due("22: 0 at least", x.of(1, 1), 0);
        x.terms(0, 998);
        due("22: the last hour", x.rest(), 999);
        due("22: not beyond", x.rest(), -3);
        due("22: as it was", x.of(0, 1), 0);
    }

    private static void promise23Undo() {
        TrainBearers x = made(yards(5, 6), 4, 3);
        x.lane(0, 1, 1);
        x.hold(0, 0);
        x.hold(0, 1);
        x.walk(1);
        x.rest();
        x.drop(0);
        due("23: how many", x.count(7), 5);
        due("23: drop", x.undo(), 1);
        due("23: holds again", x.of(0, 2), 1);
        due("23: rest", x.undo(), 3);
        due("23: the hour ahead", x.count(15), 0);
        due("23: tired ahead", x.of(0, 1), 2);
        due("23: walk", x.undo(), 2);
        due("23: fate", x.count(3), 0);
        due("23: place", x.count(4), 0);
        due("23: mud", x.at(0, 1), 0);
        due("23: tired", x.of(0, 1), 0);
        due("23: hold", x.undo(), 0);
        due("23: what she held", x.of(0, 2), 0);
        due("23: hold of none", x.undo(), 0);
        due("23: none", x.of(0, 2), NONE);
        due("23: there is none", x.undo(), -3);
        for (int i = 0; i < 20; i++) {
            x.rest();
        }
        due("23: 16 are kept", x.count(7), 16);
        x.hold(0, 0);
        due("23: the latest", x.undo(), 0);
        for (int i = 0; i < 15; i++) {
            due("23: a rest", x.undo(), 3);
        }
        due("23: no more", x.undo(), -3);
        due("23: the hour of the 5th", x.count(15), 5);
        Checks.orders(x, "rest times 3;hold 1 at 1");
        due("23: by orders, too", x.count(7), 4);
        due("23: one by one", x.undo(), 0);
        due("23: the hour stays", x.count(15), 8);
        // What is no deed is not undone.
        x.lane(0, 5, 3);
        x.seen(0, 3);
        due("23: a rest of the orders", x.undo(), 3);
        due("23: the lane stays", x.stiles(0, 5), 3);
        due("23: seen stays", x.count(5), 1);
    }

    private static void promise23UndoEnds() {
        TrainBearers x = made(yards(5), 4);
        x.rest();
        x.yard(0);
        x.girl(10);
        x.terms(3, 0);
        x.force(7);
        Checks.law(x, "bars");
        x.force(0);
        x.image(0);
        x.forget();
        due("23: these end nothing", x.count(7), 1);
        x.yard(1);
        due("23: a yard ends it", x.undo(), -3);
        x.rest();
        x.girl(1);
        due("23: a girl ends it", x.undo(), -3);
        x.rest();
        x.terms(1, 1);
        due("23: a term ends it", x.undo(), -3);
        x.rest();
        x.back(1);
        due("23: no image ends nothing", x.count(7), 1);
        x.back(0);
        due("23: back ends it", x.undo(), -3);
    }

    private static void promise24Borne() {
        TrainBearers x = made(yards(5, 3), 4, 6, 2);
        int[] first = {0, 2, 2, 1};
        for (int what = 0; what < first.length; what++) {
            due("24: borne(" + what + ")", x.borne(what), first[what]);
        }
        due("24: no such yard", x.borne(4), NONE);
        due("24: -1", x.borne(-1), NONE);
        inForce(x, "bars if girl=1 and yard=0");
        int[] second = {0, 3, 5, 2};
        for (int what = 0; what < second.length; what++) {
            due("24: barred: borne(" + what + ")", x.borne(what), second[what]);
        }
        inForce(x, "brings 20-dip");
        due("24: who lifts most brings none", x.borne(0), 0);
        inForce(x, "brings 30-dip");
        // Each yard is best left alone or wholly held; two yards are held by the fewest girls.
        due("24: held wholly", x.borne(1), 2);
        inForce(x, "brings 3");
        x.girl(0);
        due("24: fewest girls", x.borne(1), 2);
        inForce(x, "brings 0");
        due("24: none are needed", x.borne(1), 0);
        due("24: nobody at 0", x.borne(2), 0);
        x = made(yards(20), 5, 5, 5, 5);
        due("24: two at most", x.borne(0), 10);
        due("24: the first set", x.borne(2), 3);
        x = made(yards(9, 9, 9, 9, 9, 9, 9, 9), 1, 2, 3, 4, 5, 6, 7, 8);
        due("24: all lift", x.borne(0), 72 - 36);
        due("24: all", x.borne(1), 8);
        x = made(yards(18, 1), 0, 0, 0, 0, 0, 1, 9, 9);
        due("24: the two highest", x.borne(2), 192);
        due("24: and one more", x.borne(3), 32);
        x = made(yards(), 5);
        due("24: no yards", x.borne(0), 0);
        due("24: no yards, no girls", x.borne(1), 0);
        due("24: no yard 0", x.borne(2), NONE);
    }

    private static void promise25Exchanged() {
        TrainBearers x = made(yards(9, 2), 2, 9, 5);
        x.hold(0, 0);
        x.hold(1, 1);
        due("25: the two", x.exchanged(0), 1);
        due("25: brought then", x.exchanged(1), 0);
        due("25: what 2", x.exchanged(2), NONE);
        due("25: what -1", x.exchanged(-1), NONE);
        promise25Barred(x);
        x.force(NONE);
        x.drop(1);
        // Girl 1 at yard 0 leaves yard 1 alone.
        due("25: one of them holds none", x.exchanged(0), 1);
        due("25: brought by her", x.exchanged(1), 2);
        x.drop(0);
        due("25: both hold none", x.exchanged(0), NONE);
        x = made(yards(9, 9), 3, 3, 3);
        x.hold(0, 0);
        x.hold(1, 1);
        due("25: none is less", x.exchanged(0), NONE);
        due("25: none is less, brought", x.exchanged(1), NONE);
        x = made(yards(9, 9), 1, 1, 3, 3);
        x.hold(0, 0);
        x.hold(1, 1);
        due("25: the lowest of some", x.exchanged(0), 2);
    }

    /** Girl 0, who lifts 2, holds the yard of 9, girl 1, who lifts 9, that of 2; girl 2 none. */
    private static void promise25Barred(TrainBearers x) {
        inForce(x, "bars if girl=1 and yard=0");
        due("25: the higher one barred, the next best", x.exchanged(0), 2);
        due("25: brought by the next best", x.exchanged(1), 4);
        inForce(x, "bars if girl=0 and yard=1");
        due("25: the lower one barred, the next best", x.exchanged(0), 2);
        inForce(x, "bars if yard=0");
        due("25: all barred from the one", x.exchanged(0), NONE);
        due("25: all barred from the one, brought", x.exchanged(1), NONE);
        inForce(x, "bars if girl=0 and yard=0; bars if girl=1 and yard=1");
        due("25: barred from what they hold now", x.exchanged(0), 1);
        inForce(x, "bars if 0-yard=1; bars if girl=0");
        due("25: she who comes to hold none is not barred", x.exchanged(0), 2);
    }

    private static void promises26And27Seen() {
        TrainBearers x = made(yards(9));
        due("26: dip", x.seen(0, 41), -1);
        due("26: dip below 0", x.seen(0, -1), -1);
        due("26: -1 ahead of -2", x.seen(1, 41), -1);
        due("26: no yard", x.seen(1, 40), -2);
        due("26: below 0", x.seen(-1, 40), -2);
        for (int i = 1; i <= 6; i++) {
            due("26: seen", x.seen(0, i == 6 ? 40 : 0), i);
        }
        due("26: no room", x.seen(0, 0), -5);
        due("26: -2 ahead of -5", x.seen(1, 0), -2);
        due("27: how often", x.forget(), 6);
        due("27: nothing", x.forget(), 0);
        due("26: room again", x.seen(0, 1), 1);
    }

    private static void promises28And29LetGo() {
        TrainBearers x = made(yards(10, 10, 3), 2, 2, 3, 3, 1);
        due("28: none holds", x.letGo(), 0);
        due("29: none", x.look(0), NONE);
        x.hold(0, 0);
        x.hold(1, 0);
        x.hold(2, 1);
        x.hold(3, 1);
        due("28: all who hold", x.letGo(), 15);
        due("29: the yard", x.look(0), 0);
        due("29: how many at most", x.look(1), 2);
        due("29: what 2", x.look(2), NONE);
        x.seen(1, 4);
        due("28: yard 1 dips as with all", x.letGo(), 3);
        x.seen(0, 8);
        due("28: both", x.letGo(), 3);
        x.seen(0, 9);
        due("28: one can't be both", x.letGo(), 0);
        due("29: nobody left", x.look(1), NONE);
        x = made(yards(20, 20), 1, 2, 3, 4);
        x.hold(0, 0);
        x.hold(1, 0);
        x.hold(2, 1);
        x.hold(3, 1);
        x.seen(1, 13);
        due("28: those of yard 0", x.letGo(), 3);
        due("29: yard 0 tells them apart", x.look(0), 0);
        due("29: one is left", x.look(1), 1);
        x.forget();
        x.hold(0, 1);
        due("28: yard 1 has two", x.letGo(), 15);
    }

    private static void promises30And31Way() {
        TrainBearers x = made(yards(9), 9);
        x.lane(0, 1, 1);
        x.lane(1, 5, 1);
        x.lane(0, 5, 3);
        due("30: fewest stiles", x.way(5, NONE), 2);
        due("30: first place", x.way(5, 0), 1);
        due("30: last place", x.way(5, 1), 5);
        due("30: beyond", x.way(5, 2), NONE);
        due("30: below", x.way(5, -2), NONE);
        x.lane(0, 5, 2);
        due("30: then fewest lanes", x.way(5, 0), 5);
        x.lane(0, 5, NONE);
        x.lane(0, 4, 1);
        x.lane(4, 5, 1);
        due("30: then the first row", x.way(5, 0), 1);
        due("30: no way", x.way(3, NONE), NONE);
        due("30: there", x.way(0, NONE), 0);
        due("30: there, none", x.way(0, 0), NONE);
        due("30: no place", x.way(6, NONE), NONE);
        due("30: below 0", x.way(-1, NONE), NONE);
        x.lane(0, 2, 0);
        x.lane(2, 3, 0);
        x.lane(3, 4, 0);
        due("30: many lanes without stiles", x.way(5, NONE), 1);
        due("30: its third place", x.way(5, 2), 4);
        x.hold(0, 0);
        // Tired by 1 each of the first lanes, then the dip is 1, 3 with the mud of that.
        due("31: brought", x.brought(5), 0 + 1 + 3 + 5);
        due("31: there", x.brought(0), 0);
        due("31: no place", x.brought(6), NONE);
        due("31: nothing is done", x.count(3) + x.count(4) + x.of(0, 1) + x.at(0, 1) + x.count(7), 1);
        x.lane(4, 5, NONE);
        x.lane(1, 5, NONE);
        due("31: no way", x.brought(5), NONE);
    }

    private static void promise31BroughtAtTheMost() {
        TrainBearers x = made(yards(20, 20, 20, 20, 20, 20, 20, 20), 1);
        inForce(x, "brings 99");
        x.lane(0, 1, 0);
        Checks.orders(x, "walk 1-place times 12");
        due("31: near the most", x.count(3), 9504);
        due("31: what fate is more by", x.brought(1), 495);
        due("21: what is cut off, too", x.walk(1), 792);
        due("31: no more", x.brought(0), 0);
        due("37: no more either", x.generations(3, 60), 0);
    }

    private static void promise32Folds() {
        TrainBearers x = made(yards(5, 3, 2, 6, 1));
        due("32: how many", x.folds(8, NONE), 3);
        int[] first = {0, 0, 1, 1, 2};
        for (int y = 0; y < first.length; y++) {
            due("32: fold of " + y, x.folds(8, y), first[y]);
        }
        due("32: no yard", x.folds(8, 5), NONE);
        due("32: below none", x.folds(8, -2), NONE);
        due("32: too heavy", x.folds(5, NONE), NONE);
        due("32: too heavy for one", x.folds(5, 0), NONE);
        due("32: all in one", x.folds(17, NONE), 1);
        due("32: 60", x.folds(60, 4), 0);
        due("32: 61", x.folds(61, NONE), NONE);
        due("32: 0", x.folds(0, NONE), NONE);
        x.lane(0, 1, 0);
        x.walk(1);
        due("32: with mud", x.folds(17, NONE), 2);
        due("32: no yards", new TrainBearers().folds(1, NONE), 0);
    }

    private static void promise33Resting() {
        TrainBearers x = made(yards(5), 7);
        x.lane(0, 1, 3);
        x.lane(1, 2, 0);
        due("33: nobody holds", x.resting(1), NONE);
        x.hold(0, 0);
        due("33: none is needed", x.resting(1), 0);
        due("33: no lane", x.resting(2), NONE);
        due("33: where it is", x.resting(0), NONE);
        due("33: no place", x.resting(6), NONE);
        x.walk(1);
        due("33: tired by 4", x.resting(0), 2);
        due("33: nothing is done", x.count(15), 0);
        x.terms(0, 998);
        due("33: no hour for two", x.resting(0), NONE);
        x.terms(0, 997);
        due("33: just enough hours", x.resting(0), 2);
        inForce(x, "brings 0 if hour>19");
        x.terms(0, 0);
        x.drop(0);
        due("33: the 20th", x.resting(0), 20);
        inForce(x, "brings 0 if hour>20");
        due("33: not in 20", x.resting(0), NONE);
    }

    private static void promise34Far() {
        TrainBearers x = made(yards(5), 7);
        x.lane(0, 1, 9);
        x.lane(0, 5, 0);
        x.lane(1, 2, 0);
        due("34: it dips", x.far(), 0);
        x.hold(0, 0);
        due("34: all", x.far(), 34);
        x.walk(1);
        due("34: from there", x.far(), 0);
        due("34: no yards", laneWithoutYards(), 8);
        inForce(x, "brings 0");
        due("34: a dip that brings nothing", x.far(), 5);
    }

    private static int laneWithoutYards() {
        TrainBearers x = new TrainBearers();
        x.lane(0, 3, 1);
        return x.far();
    }

    private static void promise35Steady() {
        TrainBearers x = made(yards(5, 5), 7, 7, 7);
        due("35: nobody", x.steady(), 1_000_000_000_000L);
        x.hold(0, 0);
        x.hold(1, 1);
        x.lane(0, 1, 3);
        x.walk(1);
        x.terms(1, 10);
        // 10 times 4 by 9 is 4: six tenths of six tenths.
        due("35: two", x.steady(), 360_000_000_000L);
        x.terms(1, 7);
        due("35: cut", x.steady(), 490_000_000_000L);
        x.drop(1);
        due("35: one", x.steady(), 700_000_000_000L);
        x.lane(1, 2, 9);
        x.walk(2);
        x.terms(1, 10);
        due("35: surely", x.steady(), 0);
        x.terms(1, 0);
        due("35: never", x.steady(), 1_000_000_000_000L);
    }

    private static void promise36Compare() {
        TrainBearers x = made(yards(5, 9), 2);
        x.hold(0, 0);
        Checks.law(x, "brings 7");
        Checks.law(x, "lifts 5");
        due("36: none", x.compare(NONE), 12);
        due("36: brings", x.compare(0), 14);
        due("36: lifts", x.compare(1), 9);
        due("36: no such", x.compare(2), NONE);
        due("36: below none", x.compare(-2), NONE);
        x.force(0);
        due("36: in place of that in force", x.compare(1), 9);
        due("36: none in place of it", x.compare(NONE), 12);
        due("36: in force as ahead", x.count(14), 0);
    }

    private static void promises37And38Generations() {
        TrainBearers x = new TrainBearers();
        x.girl(5);
        due("37: no yards", x.generations(1, 1), -3);
        x.yard(9);
        due("37: seed", x.generations(-1, 1), -1);
        due("37: seed too high", x.generations(1_000_001, 1), -1);
        due("37: n 0", x.generations(1, 0), -1);
        due("37: n 61", x.generations(1, 61), -1);
        due("38: none yet", x.drawn(0, 0), NONE);
        due("37: the highest of both", x.generations(1_000_000, 60), 0);
        TrainBearers bare = made(yards(9));
        due("37: no girls", bare.generations(1, 1), -3);
        generationsByHand();
        x.terms(0, 999);
        due("37: at hour 999", x.generations(7, 60), 0);
    }

    private static void generationsByHand() {
        TrainBearers x = made(yards(9, 7), 5, 3);
        for (int a = 0; a < 6; a++) {
            for (int b = a + 1; b < 6; b++) {
                x.lane(a, b, 1);
            }
        }
        Model m = new Model();
        m.yard(9);
        m.yard(7);
        m.girl(5);
        m.girl(3);
        for (int a = 0; a < 6; a++) {
            for (int b = a + 1; b < 6; b++) {
                m.lane(a, b, 1);
            }
        }
        for (int seed = 0; seed < 30; seed++) {
            due("37: generations", x.generations(seed * 31337, 60), m.generations(seed * 31337, 60));
            for (int k = -1; k < 3; k++) {
                for (int what = -1; what < 4; what++) {
                    due("38: drawn(" + k + ", " + what + ")", x.drawn(k, what), m.drawn(k, what));
                }
            }
        }
        due("37: nothing is done", x.count(3) + x.count(7) + x.count(15) + x.count(2), 0);
        x.girl(9);
        x.yard(9);
        due("38: a girl who was not there", x.drawn(2, 0), NONE);
        due("38: a yard that was not there", x.drawn(2, 2), NONE);
    }

    private static void promises39And40Images() {
        TrainBearers x = made(yards(9, 7), 5, 3);
        due("39: no such", x.image(2), -1);
        due("39: below 0", x.image(-1), -1);
        due("40: not kept", x.back(0), -2);
        due("40: no such", x.back(2), -1);
        x.lane(0, 1, 4);
        x.terms(1, 5);
        x.seen(0, 9);
        inForce(x, "lifts 1");
        x.hold(0, 1);
        x.walk(1);
        x.rest();
        due("39: kept", x.image(0), 0);
        x.yard(3);
        x.girl(1);
        x.lane(0, 1, NONE);
        x.lane(1, 3, 2);
        x.terms(1, 9);
        x.terms(2, 9);
        x.seen(1, 4);
        inForce(x, "lifts 9");
        x.hold(1, 1);
        x.walk(3);
        due("39: the other one", x.image(1), 0);
        for (int turn = 0; turn < 2; turn++) {
            due("40: back", x.back(0), 0);
            int[] then = {2, 2, 1, 15, 1, 1, 1, 0};
            for (int what = 0; what < then.length; what++) {
                due("40: count(" + what + ")", x.count(what), then[what]);
            }
            due("40: in force", x.count(14), 0);
            due("40: hour", x.count(15), 1);
            due("40: stumble", x.count(16), 5);
            due("40: mood", x.count(17), 0);
            due("40: lane", x.stiles(0, 1), 4);
            due("40: no lane", x.stiles(1, 3), NONE);
            due("40: mud", x.at(0, 1), 1);
            due("40: tired", x.of(0, 1), 4);
            due("40: lifts", x.asks(0, 1, 0), 1);
            due("40: another law in the other one's place", Checks.law(x, "lifts 2"), 1);
            x.force(1);
            due("40: by it", x.asks(0, 1, 0), 2);
            due("40: back to the other", x.back(1), 0);
            due("40: its law", x.asks(0, 1, 0), 9);
            due("40: its girls", x.count(1), 3);
        }
    }

    private static void promise40WhatImagesLeave() {
        TrainBearers x = made(yards(9), 5);
        x.image(0);
        Checks.row(x, 9, 9, 9);
        Checks.law(x, "lifts +");
        Checks.orders(x, "rest;drop 0");
        x.generations(5, 3);
        int tired = x.drawn(0, 0);
        int holds = x.drawn(0, 1);
        x.yard(0);
        x.feed(1, 2, 3, 4, 5);
        x.rest();
        int[] refused = {x.count(9), x.count(10), x.count(11), x.count(12), x.count(13)};
        Checks.orders(x, "rest;drop 0");
        x.feed(1, 2, 3, 4, 5);
        x.back(0);
        due("40: puddles", x.puddles(), 1);
        due("40: fault", x.fault(), NONE);
        due("40: stopped", x.stopped(), 1);
        due("40: tape", x.count(8), 20);
        due("40: drawn", x.drawn(0, 0), tired);
        due("40: drawn's yard", x.drawn(0, 1), holds);
        due("40: nothing to undo", x.count(7), 0);
        due("41: refused by -1", x.count(9), refused[0]);
        due("41: refused by -3", x.count(11), refused[2] + 1);
        due("41: refused by -6", x.count(13), refused[4]);
        due("40: hour", x.count(15), 0);
    }

    private static void promise41Count() {
        TrainBearers x = made(yards(9, 9), 5, 5, 5);
        x.hold(0, 0);
        x.hold(1, 1);
        x.yard(0);
        x.hold(9, 9);
        x.hold(8, 8);
        x.drop(2);
        x.drop(2);
        x.drop(2);
        for (int i = 0; i < 10; i++) {
            x.yard(1);
        }
        x.row();
        x.row();
        int[] all = {8, 3, 2, 0, 0, 0, 0, 0, 0, 1, 2, 3, 4, 2, NONE, 0, 1, 0};
        for (int what = 0; what < all.length; what++) {
            due("41: count(" + what + ")", x.count(what), all[what]);
        }
        due("41: 18", x.count(18), NONE);
        due("41: -1", x.count(-1), NONE);
        x.at(99, 0);
        x.feed(1, 1, 1, 1, 1);
        x.end(99);
        x.compare(9);
        x.way(9, 9);
        due("41: NONE is not refused", x.count(9) + x.count(10) + x.count(11) + x.count(12) + x.count(13), 12);
        x.end(0);
        Checks.orders(x, "hold 9 at 9");
        due("41: orders are refused by -3 alone", x.count(10), 2);
        due("41: once", x.count(11), 4);
    }

    private static void promise42Status() {
        TrainBearers x = new TrainBearers();
        x.yard(0);
        due("42: yard", x.status(), -1);
        x.at(0, 0);
        x.count(3);
        x.end(9);
        x.forget();
        x.letGo();
        x.compare(4);
        due("42: others change nothing", x.status(), -1);
        x.yard(5);
        due("42: not refused", x.status(), 0);
        x.girl(-1);
        due("42: girl", x.status(), -1);
        x.lane(0, 1, NONE);
        due("42: lane that answers -1", x.status(), 0);
        x.lane(1, 1, 1);
        due("42: lane", x.status(), -1);
        x.terms(2, 1);
        due("42: terms", x.status(), 0);
        x.row();
        due("42: row", x.status(), -6);
        x.force(NONE);
        due("42: force", x.status(), 0);
        x.force(5);
        due("42: force refused", x.status(), -2);
        x.rest();
        due("42: rest", x.status(), 0);
        x.drop(0);
        due("42: drop", x.status(), -2);
        x.undo();
        due("42: undo", x.status(), 0);
        x.undo();
        due("42: undo refused", x.status(), -3);
        x.seen(0, 0);
        due("42: seen", x.status(), 0);
        x.walk(1);
        due("42: walk", x.status(), -3);
        x.image(0);
        due("42: image", x.status(), 0);
        x.hold(0, 0);
        due("42: hold", x.status(), -2);
        x.back(0);
        due("42: back", x.status(), 0);
        x.generations(0, 1);
        due("42: generations", x.status(), -3);
        due("42: law", Checks.law(x, "bars"), x.status());
        x.law();
        due("42: law refused", x.status(), -6);
        Checks.orders(x, "rest");
        due("42: orders", x.status(), 0);
        Checks.orders(x, "drop 0");
        due("42: orders refused", x.status(), -3);
    }
}
