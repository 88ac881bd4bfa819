/** Terms I of the document, sentence by sentence: each bound that it names, and one step beyond it. */
public final class TermsOneTest {
    private static final int NONE = TrainBearers.NONE;
    private static final int LEAST = Integer.MIN_VALUE;
    private static final int MOST = Integer.MAX_VALUE;
    private static final Checks C = new Checks("TermsOneTest");

    private TermsOneTest() {
    }

    public static void main(String[] args) {
        yards();
        heavy();
        mud();
        girls();
        strong();
        tired();
        holdsNoneAtFirst();
        twoHoldAtMost();
        twoHoldAtMostByDraws();
        places();
        stiles();
        atAPlace();
        fate();
        fateCutOff();
        seen();
        seenDip();
        terms();
        refusedByTheFirst();
        refusedByTheFirstOfTexts();
        C.finish();
    }

    private static void yards() {
        C.under("YARDS 0 .. 7 (8 at most)");
        TrainBearers x = Checks.made(Checks.yards(), 0);
        for (int y = 0; y < 8; y++) {
            int heavy = y + 1;
            C.accepted("yard " + y, x, y, () -> x.yard(heavy));
        }
        C.refused("the ninth", x, -5, () -> x.yard(1));
        C.due("count(0)", x.count(0), 8);
        C.due("at(7, 0)", x.at(7, 0), 8);
        C.due("asks(0, 7, 0)", x.asks(0, 7, 0), 0);
        C.due("asks(0, 7, 1)", x.asks(0, 7, 1), 0);
        C.accepted("hold(0, 7)", x, 8, () -> x.hold(0, 7));
        C.accepted("seen(7, 8)", x, 1, () -> x.seen(7, 8));
        C.due("letGo()", x.letGo(), 1);
        C.due("folds(60, 7)", x.folds(60, 7), 0);
        C.due("borne(9)", x.borne(9), 0);
        C.accepted("generations(0, 1)", x, 0, () -> x.generations(0, 1));
        C.due("drawn(7, 2)", x.drawn(7, 2), 0);
        for (int none : new int[] {8, -1, LEAST, MOST}) {
            for (int what = 0; what <= 4; what++) {
                C.due("at(" + none + ", " + what + ")", x.at(none, what), NONE);
            }
            C.due("asks(0, " + none + ", 0)", x.asks(0, none, 0), NONE);
            C.due("asks(0, " + none + ", 1)", x.asks(0, none, 1), NONE);
            C.refused("hold(0, " + none + ")", x, -2, () -> x.hold(0, none));
            C.refused("seen(" + none + ", 0)", x, -2, () -> x.seen(none, 0));
            C.due("drawn(" + none + ", 2)", x.drawn(none, 2), NONE);
        }
        C.due("folds(60, 8)", x.folds(60, 8), NONE);
        C.due("borne(10)", x.borne(10), NONE);
        TrainBearers seven = Checks.made(Checks.yards(1, 2, 3, 4, 5, 6, 7), 0);
        C.due("at(6, 0) of seven", seven.at(6, 0), 7);
        C.due("at(7, 0) of seven", seven.at(7, 0), NONE);
        C.refused("hold(0, 7) of seven", seven, -2, () -> seven.hold(0, 7));
        C.refused("seen(7, 0) of seven", seven, -2, () -> seven.seen(7, 0));
    }

    private static void heavy() {
        C.under("HEAVY 1 .. 20");
        TrainBearers x = new TrainBearers();
        int[] can = {1, 2, 19, 20};
        for (int y = 0; y < can.length; y++) {
            int h = can[y];
            C.accepted("yard(" + h + ")", x, y, () -> x.yard(h));
            C.due("its HEAVY", x.at(y, 0), h);
        }
        for (int h : new int[] {0, 21, -1, -20, LEAST, MOST}) {
            C.refused("yard(" + h + ")", x, -1, () -> x.yard(h));
        }
    }

    private static void mud() {
        C.under("MUD 0 .. 9 (0 at first)");
        TrainBearers x = Checks.made(Checks.yards(20));
        x.lane(0, 1, 0);
        C.due("at(0, 1) at first", x.at(0, 1), 0);
        for (int i = 1; i <= 9; i++) {
            C.due("walk " + i, x.walk(i % 2), 20 + i - 1);
            C.due("MUD behind it", x.at(0, 1), i);
        }
        C.due("walk 10", x.walk(0), 29);
        C.due("MUD behind it", x.at(0, 1), 9);
        C.due("by how much it DIPS", x.at(0, 3), 29);
        C.due("walk 11", x.walk(1), 29);
        x.undo();
        x.undo();
        C.due("MUD with walks 11, 10 undone", x.at(0, 1), 9);
        x.undo();
        C.due("MUD with walk 9 undone", x.at(0, 1), 8);
    }

    private static void girls() {
        C.under("GIRLS 0 .. 7 (8 at most)");
        TrainBearers x = Checks.made(Checks.yards(20));
        for (int g = 0; g < 8; g++) {
            int strong = g + 1;
            C.accepted("girl " + g, x, g, () -> x.girl(strong));
        }
        C.refused("the ninth", x, -5, () -> x.girl(1));
        C.due("count(1)", x.count(1), 8);
        C.due("of(7, 0)", x.of(7, 0), 8);
        C.due("asks(7, 0, 0)", x.asks(7, 0, 0), 8);
        C.accepted("hold(7, 0)", x, 12, () -> x.hold(7, 0));
        C.due("at(0, 2)", x.at(0, 2), 128);
        C.due("letGo()", x.letGo(), 128);
        C.accepted("generations(0, 1)", x, 0, () -> x.generations(0, 1));
        C.due("drawn(7, 0)", x.drawn(7, 0), 0);
        C.accepted("drop(7)", x, 0, () -> x.drop(7));
        for (int none : new int[] {8, -1, LEAST, MOST}) {
            for (int what = 0; what <= 2; what++) {
                C.due("of(" + none + ", " + what + ")", x.of(none, what), NONE);
            }
            C.due("asks(" + none + ", 0, 0)", x.asks(none, 0, 0), NONE);
            C.due("asks(" + none + ", 0, 1)", x.asks(none, 0, 1), NONE);
            C.refused("hold(" + none + ", 0)", x, -2, () -> x.hold(none, 0));
            C.refused("drop(" + none + ")", x, -2, () -> x.drop(none));
            C.due("drawn(" + none + ", 0)", x.drawn(none, 0), NONE);
            C.due("drawn(" + none + ", 1)", x.drawn(none, 1), NONE);
        }
        TrainBearers seven = Checks.made(Checks.yards(20), 1, 2, 3, 4, 5, 6, 7);
        C.due("of(6, 0) of seven", seven.of(6, 0), 7);
        C.due("of(7, 0) of seven", seven.of(7, 0), NONE);
        C.refused("hold(7, 0) of seven", seven, -2, () -> seven.hold(7, 0));
        C.refused("drop(7) of seven", seven, -2, () -> seven.drop(7));
    }

    private static void strong() {
        C.under("STRONG 0 .. 9");
        TrainBearers x = new TrainBearers();
        int[] can = {0, 1, 8, 9};
        for (int g = 0; g < can.length; g++) {
            int s = can[g];
            C.accepted("girl(" + s + ")", x, g, () -> x.girl(s));
            C.due("her STRONG", x.of(g, 0), s);
        }
        for (int s : new int[] {-1, 10, -9, LEAST, MOST}) {
            C.refused("girl(" + s + ")", x, -1, () -> x.girl(s));
        }
    }

    private static void tired() {
        C.under("TIRED 0 .. 9 (0 at first)");
        TrainBearers x = Checks.made(Checks.yards(1), 9);
        x.lane(0, 1, 0);
        C.due("of(0, 1) at first", x.of(0, 1), 0);
        x.hold(0, 0);
        C.inForce(x, "tires 8");
        x.walk(1);
        C.due("by 8", x.of(0, 1), 8);
        C.inForce(x, "tires 1");
        x.walk(0);
        C.due("8 and 1", x.of(0, 1), 9);
        x.walk(1);
        C.due("9 and 1", x.of(0, 1), 9);
        x.rest();
        C.due("a rest from 9", x.of(0, 1), 8);
        C.inForce(x, "tires 2");
        x.walk(0);
        C.due("8 and 2", x.of(0, 1), 9);
        for (int left = 8; left >= 0; left--) {
            x.rest();
            C.due("rests", x.of(0, 1), left);
        }
        x.rest();
        C.due("a rest from 0", x.of(0, 1), 0);
    }

    private static void holdsNoneAtFirst() {
        C.under("a YARD she HOLDS or none (at first)");
        TrainBearers x = Checks.made(Checks.yards(5), 4);
        C.due("of(0, 2)", x.of(0, 2), NONE);
        C.due("at(0, 2)", x.at(0, 2), 0);
        C.due("count(2)", x.count(2), 0);
        C.refused("drop(0)", x, -3, () -> x.drop(0));
        x.hold(0, 0);
        C.due("of(0, 2) behind hold()", x.of(0, 2), 0);
        C.due("count(2) behind hold()", x.count(2), 1);
    }

    private static void twoHoldAtMost() {
        C.under("of a YARD two hold at most");
        TrainBearers x = Checks.made(Checks.yards(20, 20), 1, 2, 3);
        C.accepted("the first", x, 19, () -> x.hold(0, 0));
        C.accepted("the second", x, 17, () -> x.hold(1, 0));
        C.refused("the third", x, -3, () -> x.hold(2, 0));
        C.accepted("she at another YARD", x, 17, () -> x.hold(2, 1));
        C.refused("the third from another YARD", x, -3, () -> x.hold(2, 0));
        C.due("the third by orders", Checks.orders(x, "hold 2 at 0"), -3);
        x.drop(1);
        C.accepted("she when one let go", x, 16, () -> x.hold(2, 0));
        C.due("who hold YARD 0", x.at(0, 2), 5);
        C.due("who hold YARD 1", x.at(1, 2), 0);
        C.due("one for another by orders", Checks.orders(x, "drop 0;hold 1 at 0"), 2);
        C.due("who hold YARD 0 then", x.at(0, 2), 6);
    }

    private static void twoHoldAtMostByDraws() {
        C.under("of a YARD two hold at most (GENERATIONS)");
        TrainBearers x = Checks.made(Checks.yards(20), 1, 1, 1, 1, 1);
        int most = 0;
        for (int seed = 0; seed < 100; seed++) {
            x.generations(seed, 60);
            int hold = 0;
            for (int g = 0; g < 5; g++) {
                hold += x.drawn(g, 1) == 0 ? 1 : 0;
            }
            most = Math.max(most, hold);
        }
        C.due("the most of a hundred SEEDS", most, 2);
    }

    private static void places() {
        C.under("PLACES 0 .. 5");
        TrainBearers x = new TrainBearers();
        C.accepted("lane(0, 5, 1)", x, NONE, () -> x.lane(0, 5, 1));
        C.accepted("lane(5, 4, 2)", x, NONE, () -> x.lane(5, 4, 2));
        C.due("stiles(4, 5)", x.stiles(4, 5), 2);
        C.due("far()", x.far(), 32);
        C.due("way(4, NONE)", x.way(4, NONE), 3);
        C.due("way(4, 0)", x.way(4, 0), 5);
        C.due("brought(5)", x.brought(5), 0);
        C.due("resting(5)", x.resting(5), 0);
        for (int none : new int[] {6, -1, LEAST, MOST}) {
            C.refused("lane(5, " + none + ", 1)", x, -1, () -> x.lane(5, none, 1));
            C.refused("lane(" + none + ", 5, 1)", x, -1, () -> x.lane(none, 5, 1));
            C.refused("lane(" + none + ", " + none + ", 1)", x, -1, () -> x.lane(none, none, 1));
            C.due("stiles(" + none + ", 5)", x.stiles(none, 5), NONE);
            C.due("stiles(5, " + none + ")", x.stiles(5, none), NONE);
            C.refused("walk(" + none + ")", x, -1, () -> x.walk(none));
            C.due("way(" + none + ", NONE)", x.way(none, NONE), NONE);
            C.due("way(" + none + ", 0)", x.way(none, 0), NONE);
            C.due("brought(" + none + ")", x.brought(none), NONE);
            C.due("resting(" + none + ")", x.resting(none), NONE);
        }
        C.accepted("walk(5)", x, 0, () -> x.walk(5));
        C.due("count(4)", x.count(4), 5);
        C.due("far() from 5", x.far(), 17);
        C.accepted("walk(0)", x, 0, () -> x.walk(0));
        C.due("count(4) again", x.count(4), 0);
    }

    private static void stiles() {
        C.under("LANES between two of them, both ways, with STILES 0 .. 9, or none (at first)");
        TrainBearers x = new TrainBearers();
        C.due("stiles(2, 3) at first", x.stiles(2, 3), NONE);
        int was = NONE;
        for (int s : new int[] {0, 1, 8, 9, NONE, NONE, 0}) {
            C.accepted("lane(2, 3, " + s + ")", x, was, () -> x.lane(2, 3, s));
            C.due("stiles(2, 3)", x.stiles(2, 3), s);
            C.due("stiles(3, 2)", x.stiles(3, 2), s);
            was = s;
        }
        for (int s : new int[] {10, -2, 255, LEAST, MOST}) {
            C.refused("lane(2, 3, " + s + ")", x, -1, () -> x.lane(2, 3, s));
        }
        for (int p = 0; p < 6; p++) {
            int one = p;
            C.refused("lane(" + p + ", " + p + ", 0)", x, -1, () -> x.lane(one, one, 0));
            C.refused("lane(" + p + ", " + p + ", NONE)", x, -1, () -> x.lane(one, one, NONE));
            C.due("stiles(" + p + ", " + p + ")", x.stiles(p, p), NONE);
        }
    }

    private static void atAPlace() {
        C.under("The train is AT a PLACE (0 at first)");
        TrainBearers x = new TrainBearers();
        C.due("count(4)", x.count(4), 0);
        C.refused("walk(0)", x, -3, () -> x.walk(0));
        C.refused("walk(1) without a LANE", x, -3, () -> x.walk(1));
        x.lane(1, 2, 0);
        C.refused("walk(2) with a LANE elsewhere", x, -3, () -> x.walk(2));
    }

    /** At 9,900 with a yard of which a dip brings 99. */
    private static TrainBearers nearTheMost() {
        TrainBearers x = Checks.made(Checks.yards(1), 0);
        C.inForce(x, "brings 99");
        x.lane(0, 1, 0);
        for (int i = 0; i < 5; i++) {
            C.due("twenty walks", Checks.orders(x, "walk 1-place times 20"), 20);
        }
        C.due("FATE behind a hundred", x.count(3), 9900);
        return x;
    }

    private static void fate() {
        C.under("FATE 0 .. 9999 (0 at first)");
        C.due("count(3) at first", new TrainBearers().count(3), 0);
        TrainBearers x = nearTheMost();
        C.due("brought(1) up to 9,999", x.brought(1), 99);
        C.due("walk(1) up to 9,999", x.walk(1), 99);
        C.due("count(3)", x.count(3), 9999);
        C.due("brought(0) from there", x.brought(0), 0);
        C.due("walk(0) from there", x.walk(0), 99);
        C.due("count(3) from there", x.count(3), 9999);
        C.due("undo()", x.undo(), 2);
        C.due("count(3), the latest undone", x.count(3), 9999);
        C.due("undo() again", x.undo(), 2);
        C.due("count(3), both undone", x.count(3), 9900);
    }

    private static void fateCutOff() {
        C.under("FATE is more by what all YARDS that DIP BRING (9,999 at most)");
        TrainBearers x = nearTheMost();
        C.inForce(x, "brings 98");
        C.due("walk(1) up to 9,998", x.walk(1), 98);
        C.due("count(3)", x.count(3), 9998);
        C.inForce(x, "brings 1");
        C.due("brought(0) of 1", x.brought(0), 1);
        C.inForce(x, "brings 2");
        C.due("brought(0) of 2", x.brought(0), 1);
        C.due("walk(0) of 2", x.walk(0), 2);
        C.due("count(3) behind it", x.count(3), 9999);
        x.undo();
        C.due("latest and fate in orders", Checks.orders(x, "walk 0;rest if latest=2 and fate=1000*10-1"), 2);
        x.undo();
        x.undo();
        C.due("count(3) with these undone", x.count(3), 9998);
        // By draws: no seed brings more than the one that is left, and some bring it.
        x.lane(1, 0, 0);
        int most = 0;
        for (int seed = 0; seed < 50; seed++) {
            most = Math.max(most, x.generations(seed, 60));
        }
        C.due("the most of fifty generations", most, 1);
    }

    private static void seen() {
        C.under("SEEN, 6 at most");
        TrainBearers x = Checks.made(Checks.yards(5));
        C.due("count(5) at first", x.count(5), 0);
        for (int i = 1; i <= 6; i++) {
            C.accepted("seen " + i, x, i, () -> x.seen(0, 5));
            C.due("count(5)", x.count(5), i);
        }
        C.refused("the seventh", x, -5, () -> x.seen(0, 5));
        C.due("forget()", x.forget(), 6);
        C.due("count(5) then", x.count(5), 0);
        C.accepted("seen behind forget()", x, 1, () -> x.seen(0, 5));
        C.due("forget() of one", x.forget(), 1);
        C.due("forget() of none", x.forget(), 0);
    }

    private static void seenDip() {
        C.under("SEEN: a YARD dipped by 0 .. 40");
        TrainBearers x = Checks.made(Checks.yards(5));
        int[] can = {0, 1, 39, 40};
        for (int i = 0; i < can.length; i++) {
            int dip = can[i];
            C.accepted("seen(0, " + dip + ")", x, i + 1, () -> x.seen(0, dip));
        }
        for (int dip : new int[] {-1, 41, LEAST, MOST}) {
            C.refused("seen(0, " + dip + ")", x, -1, () -> x.seen(0, dip));
        }
    }

    private static void terms() {
        C.under("TERMS: 0 HOUR 0 .. 999 (0 at first), 1 STUMBLE 0 .. 10 (1), 2 MOOD 0 .. 9 (0)");
        TrainBearers x = new TrainBearers();
        int[] first = {0, 1, 0};
        int[] most = {999, 10, 9};
        for (int t = 0; t < 3; t++) {
            int what = t;
            C.due("count(" + (15 + t) + ") at first", x.count(15 + t), first[t]);
            int was = first[t];
            for (int value : new int[] {most[t], most[t] - 1, 1, 0, most[t]}) {
                C.accepted("terms(" + t + ", " + value + ")", x, was, () -> x.terms(what, value));
                C.due("count(" + (15 + t) + ")", x.count(15 + t), value);
                was = value;
            }
            for (int value : new int[] {-1, most[t] + 1, LEAST, MOST}) {
                C.refused("terms(" + t + ", " + value + ")", x, -1, () -> x.terms(what, value));
            }
        }
        for (int what : new int[] {-1, 3, LEAST, MOST}) {
            C.refused("terms(" + what + ", 0)", x, -1, () -> x.terms(what, 0));
        }
    }

    private static void refusedByTheFirst() {
        C.under("REFUSED by: the first of these in that order");
        int[] eight = {1, 1, 1, 1, 1, 1, 1, 1};
        TrainBearers x = Checks.made(eight, eight);
        C.refused("-1 ahead of -5: yard(0)", x, -1, () -> x.yard(0));
        C.refused("-1 ahead of -5: yard(21)", x, -1, () -> x.yard(21));
        C.refused("-1 ahead of -5: girl(-1)", x, -1, () -> x.girl(-1));
        C.refused("-1 ahead of -5: girl(10)", x, -1, () -> x.girl(10));
        for (int i = 0; i < 6; i++) {
            x.seen(7, 40);
        }
        C.refused("-1 ahead of -2, -5: seen(8, 41)", x, -1, () -> x.seen(8, 41));
        C.refused("-1 ahead of -5: seen(7, -1)", x, -1, () -> x.seen(7, -1));
        C.refused("-2 ahead of -5: seen(8, 40)", x, -2, () -> x.seen(8, 40));
        C.refused("-5: seen(7, 40)", x, -5, () -> x.seen(7, 40));
        C.inForce(x, "bars");
        C.refused("-2 ahead of -3: hold(8, 0)", x, -2, () -> x.hold(8, 0));
        C.refused("-2 ahead of -3: hold(0, 8)", x, -2, () -> x.hold(0, 8));
        C.refused("-3: hold(0, 0)", x, -3, () -> x.hold(0, 0));
        C.refused("-2 ahead of -3: drop(8)", x, -2, () -> x.drop(8));
        C.refused("-1 ahead of -3: walk(6)", x, -1, () -> x.walk(6));
        C.refused("-1 ahead of -2: back(2)", x, -1, () -> x.back(2));
        C.refused("-2: back(1)", x, -2, () -> x.back(1));
        TrainBearers bare = new TrainBearers();
        C.refused("-1 ahead of -3: generations(-1, 1)", bare, -1, () -> bare.generations(-1, 1));
        C.refused("-1 ahead of -3: generations(0, 61)", bare, -1, () -> bare.generations(0, 61));
        C.refused("-3: generations(0, 60)", bare, -3, () -> bare.generations(0, 60));
    }

    private static void refusedByTheFirstOfTexts() {
        C.under("REFUSED by: the first of these in that order (TEXTS)");
        TrainBearers x = new TrainBearers();
        for (int i = 0; i < 6; i++) {
            Checks.law(x, "bars");
        }
        C.refused("-5 ahead of -6: law()", x, -5, () -> Checks.law(x, "bars bars"));
        C.refused("-5 ahead of -6: law() of nothing", x, -5, () -> Checks.law(x, ""));
        // One that can't be stands ahead of what can't be read: nothing of it is run.
        C.refused("-6: orders()", x, -6, () -> Checks.orders(x, "drop 0;rest rest"));
        C.due("stopped()", x.stopped(), NONE);
        C.refused("-3: orders()", x, -3, () -> Checks.orders(x, "drop 0;rest"));
        C.refused("-6: row() of nothing", x, -6, () -> x.row());
    }
}
