import java.util.function.IntSupplier;

/** The sentences of promises 1 to 42 that name a boundary: the call there, and one step beyond it. */
public final class PromiseEdgesTest {
    private static final int NONE = TrainBearers.NONE;
    private static final int LEAST = Integer.MIN_VALUE;
    private static final int MOST = Integer.MAX_VALUE;
    private static final int[] BEYOND = {LEAST, LEAST + 1, -1000, -2, 1000, MOST - 1, MOST};
    private static final Checks C = new Checks("PromiseEdgesTest");

    private PromiseEdgesTest() {
    }

    public static void main(String[] args) {
        newObject();
        objectsApart();
        atWhat();
        ofWhat();
        asksWhat();
        laneWas();
        feed();
        feedBytes();
        end();
        rowEmptiesTheTape();
        lawEmptiesTheTape();
        lawWithoutRoom();
        ordersHowMany();
        fault();
        stopped();
        force();
        walkCutOff();
        undoSixteen();
        undoRing();
        undoByOrders();
        undoEnds();
        undoOfNothingElse();
        borneWhat();
        drawnWhat();
        drawnOfTheLatest();
        count();
        countRefused();
        statusOfEach();
        statusOfOthers();
        callsUpTo512();
        C.finish();
    }

    private static void newObject() {
        C.under("1: A bride without a train");
        TrainBearers x = new TrainBearers();
        int[] first = {0, 0, 0, 0, 0, 0, 0, 0, 0, 0, 0, 0, 0, 0, NONE, 0, 1, 0};
        for (int what = 0; what < first.length; what++) {
            C.due("count(" + what + ")", x.count(what), first[what]);
        }
        C.due("at(0, 0)", x.at(0, 0), NONE);
        C.due("of(0, 0)", x.of(0, 0), NONE);
        C.due("asks(0, 0, 0)", x.asks(0, 0, 0), NONE);
        C.due("stiles(0, 1)", x.stiles(0, 1), NONE);
        C.due("puddles()", x.puddles(), 0);
        C.due("fault()", x.fault(), NONE);
        C.due("stopped()", x.stopped(), NONE);
        C.due("borne(0)", x.borne(0), 0);
        C.due("borne(1)", x.borne(1), 0);
        C.due("borne(2)", x.borne(2), NONE);
        C.due("exchanged(0)", x.exchanged(0), NONE);
        C.due("letGo()", x.letGo(), 0);
        C.due("look(0)", x.look(0), NONE);
        C.due("way(0, NONE)", x.way(0, NONE), 0);
        C.due("way(1, NONE)", x.way(1, NONE), NONE);
        C.due("brought(0)", x.brought(0), 0);
        C.due("folds(1, NONE)", x.folds(1, NONE), 0);
        C.due("resting(1)", x.resting(1), NONE);
        C.due("far()", x.far(), 0);
        C.due("steady()", x.steady(), 1_000_000_000_000L);
        C.due("compare(NONE)", x.compare(NONE), 0);
        C.due("compare(0)", x.compare(0), NONE);
        C.due("drawn(0, 0)", x.drawn(0, 0), NONE);
        C.due("forget()", x.forget(), 0);
        C.due("status()", x.status(), 0);
    }

    private static void objectsApart() {
        C.under("1: one object's calls are none of another's");
        TrainBearers x = Checks.made(Checks.yards(5), 4);
        TrainBearers y = new TrainBearers();
        x.lane(0, 1, 2);
        x.image(0);
        Checks.law(x, "bars");
        Checks.feed(x, "rest");
        C.due("count(0)", y.count(0), 0);
        C.due("count(8)", y.count(8), 0);
        C.due("count(6)", y.count(6), 0);
        C.due("stiles(0, 1)", y.stiles(0, 1), NONE);
        C.refused("back(0)", y, -2, () -> y.back(0));
    }

    private static void atWhat() {
        C.under("3: HEAVY (what 0), MUD (1), who holds it, as bits (2), by how much it DIPS (3), what that BRINGS (4). NONE");
        TrainBearers x = Checks.made(Checks.yards(9, 6), 5, 3);
        x.lane(0, 1, 0);
        x.hold(0, 0);
        x.hold(1, 0);
        x.walk(1);
        C.inForce(x, "brings dip*3");
        int[] want = {9, 1, 3, 4, 12};
        for (int what = 0; what < want.length; what++) {
            int asked = what;
            C.asked("at(0, " + what + ")", x, want[what], () -> x.at(0, asked));
        }
        C.due("at(0, 5)", x.at(0, 5), NONE);
        C.due("at(0, -1)", x.at(0, -1), NONE);
        C.due("at(2, 0)", x.at(2, 0), NONE);
        for (int b : BEYOND) {
            C.asked("at(0, " + b + ")", x, NONE, () -> x.at(0, b));
            C.asked("at(" + b + ", 0)", x, NONE, () -> x.at(b, 0));
            C.asked("at(" + b + ", " + b + ")", x, NONE, () -> x.at(b, b));
        }
    }

    private static void ofWhat() {
        C.under("5: STRONG (what 0), TIRED (1), the YARD (2; NONE). NONE");
        TrainBearers x = Checks.made(Checks.yards(9, 6), 5, 3);
        x.lane(0, 1, 0);
        x.hold(1, 1);
        x.walk(1);
        int[] want = {3, 1, 1};
        for (int what = 0; what < want.length; what++) {
            int asked = what;
            C.asked("of(1, " + what + ")", x, want[what], () -> x.of(1, asked));
        }
        C.due("of(0, 2)", x.of(0, 2), NONE);
        C.due("of(1, 3)", x.of(1, 3), NONE);
        C.due("of(1, -1)", x.of(1, -1), NONE);
        C.due("of(2, 0)", x.of(2, 0), NONE);
        for (int b : BEYOND) {
            C.asked("of(0, " + b + ")", x, NONE, () -> x.of(0, b));
            C.asked("of(" + b + ", 0)", x, NONE, () -> x.of(b, 0));
        }
    }

    private static void asksWhat() {
        C.under("6: what she LIFTS (what 0), whether BARRED (1: 1, 0). NONE");
        TrainBearers x = Checks.made(Checks.yards(9, 6), 5, 3);
        C.inForce(x, "bars if yard=1;lifts 7 if yard=1");
        C.asked("asks(0, 0, 0)", x, 5, () -> x.asks(0, 0, 0));
        C.asked("asks(0, 0, 1)", x, 0, () -> x.asks(0, 0, 1));
        C.asked("asks(1, 1, 0)", x, 7, () -> x.asks(1, 1, 0));
        C.asked("asks(1, 1, 1)", x, 1, () -> x.asks(1, 1, 1));
        C.due("asks(0, 0, 2)", x.asks(0, 0, 2), NONE);
        C.due("asks(0, 0, -1)", x.asks(0, 0, -1), NONE);
        C.due("asks(2, 0, 0)", x.asks(2, 0, 0), NONE);
        C.due("asks(0, 2, 0)", x.asks(0, 2, 0), NONE);
        for (int b : BEYOND) {
            C.asked("asks(" + b + ", 0, 0)", x, NONE, () -> x.asks(b, 0, 0));
            C.asked("asks(0, " + b + ", 1)", x, NONE, () -> x.asks(0, b, 1));
            C.asked("asks(0, 0, " + b + ")", x, NONE, () -> x.asks(0, 0, b));
        }
    }

    private static void laneWas() {
        C.under("7: .. or none (NONE): what there was. -1 (one alone, too)");
        TrainBearers x = new TrainBearers();
        C.accepted("there was none", x, NONE, () -> x.lane(0, 1, 0));
        C.accepted("there was 0", x, 0, () -> x.lane(1, 0, 9));
        C.accepted("there was 9", x, 9, () -> x.lane(0, 1, NONE));
        C.accepted("there was none again", x, NONE, () -> x.lane(0, 1, NONE));
        C.refused("one alone", x, -1, () -> x.lane(0, 0, 0));
        C.refused("one alone, none", x, -1, () -> x.lane(5, 5, NONE));
        for (int b : BEYOND) {
            C.refused("lane(" + b + ", 1, 1)", x, -1, () -> x.lane(b, 1, 1));
            C.refused("lane(1, " + b + ", 1)", x, -1, () -> x.lane(1, b, 1));
            C.refused("lane(0, 1, " + b + ")", x, -1, () -> x.lane(0, 1, b));
            C.refused("lane(" + b + ", " + b + ", NONE)", x, -1, () -> x.lane(b, b, NONE));
        }
    }

    private static void feed() {
        C.under("10: how many it has. NONE, if there would be more than 400");
        TrainBearers x = new TrainBearers();
        for (int n = 20; n <= 400; n += 20) {
            int want = n;
            C.asked("feed() up to " + n, x, want, () -> x.feed(0, 0, 0, 0, 0));
            C.due("count(8)", x.count(8), n);
        }
        C.asked("feed() at 400", x, NONE, () -> x.feed(0, 0, 0, 0, 0));
        C.due("count(8) as it was", x.count(8), 400);
        for (int n = 399; n >= 378; n--) {
            x.end(n);
            C.due("feed() at " + n, x.feed(0, 0, 0, 0, 0), n <= 380 ? n + 20 : NONE);
            C.due("count(8) from " + n, x.count(8), n <= 380 ? n + 20 : n);
        }
    }

    private static void feedBytes() {
        C.under("10: Twenty bytes come behind the TAPE, four of each number, the highest first");
        TrainBearers x = new TrainBearers();
        // 0 1 2, 3 4 5, 5 4 255, 0 2 9, 0 3 8, 0 4 7, and two bytes within which it ends.
        x.feed(0x00010203, 0x04050504, 0xff000209, 0x00030800, 0x04070001);
        C.due("row()", x.row(), 6);
        C.due("stiles(0, 1)", x.stiles(0, 1), 2);
        C.due("stiles(3, 4)", x.stiles(3, 4), 5);
        C.due("stiles(4, 5)", x.stiles(4, 5), NONE);
        C.due("stiles(0, 2)", x.stiles(0, 2), 9);
        C.due("stiles(0, 3)", x.stiles(0, 3), 8);
        C.due("stiles(0, 4)", x.stiles(0, 4), 7);
        C.due("puddles()", x.puddles(), 1);
        for (int number : new int[] {LEAST, -1, MOST}) {
            C.due("feed() of " + number, x.feed(number, number, number, number, number), 20);
            x.end(0);
        }
        // What was cut off is not there when more comes.
        x.feed(0x00010500, 0, 0, 0, 0);
        x.end(2);
        x.feed(0x06000000, 0, 0, 0, 0);
        x.end(3);
        C.due("row() of what came behind", x.row(), 1);
        C.due("stiles(0, 1) of it", x.stiles(0, 1), 6);
    }

    private static void end() {
        C.under("11: The TAPE has its first n bytes alone: n. NONE, if it has not so many, or n is below 0");
        TrainBearers x = new TrainBearers();
        C.asked("end(0) of none", x, 0, () -> x.end(0));
        C.asked("end(1) of none", x, NONE, () -> x.end(1));
        x.feed(0, 0, 0, 0, 0);
        C.asked("end(20) of 20", x, 20, () -> x.end(20));
        C.asked("end(21) of 20", x, NONE, () -> x.end(21));
        C.asked("end(-1) of 20", x, NONE, () -> x.end(-1));
        C.due("count(8)", x.count(8), 20);
        for (int b : BEYOND) {
            C.asked("end(" + b + ")", x, NONE, () -> x.end(b));
        }
        C.asked("end(19)", x, 19, () -> x.end(19));
        C.asked("end(20) of 19", x, NONE, () -> x.end(20));
        C.asked("end(1)", x, 1, () -> x.end(1));
        C.asked("end(0)", x, 0, () -> x.end(0));
        C.due("count(8) at last", x.count(8), 0);
    }

    private static void rowEmptiesTheTape() {
        C.under("12: A ROW, the TAPE is empty then: how many LANES were told. -6 the TAPE is empty");
        TrainBearers x = new TrainBearers();
        C.refused("row()", x, -6, x::row);
        C.accepted("row() of one byte", x, 0, () -> Checks.row(x, 0));
        C.due("the TAPE", x.count(8), 0);
        C.refused("row() behind it", x, -6, x::row);
        C.accepted("row() of a LANE", x, 1, () -> Checks.row(x, 0, 1, 0));
        C.refused("row() behind that", x, -6, x::row);
        x.rest();
        Checks.row(x, 1, 2, 0);
        C.due("a ROW ends nothing that can be undone", x.count(7), 1);
    }

    private static void lawEmptiesTheTape() {
        C.under("14: The TAPE, which is empty then, becomes a LAW. -6 (blanks alone: FAULT at the end)");
        TrainBearers x = new TrainBearers();
        C.refused("law() of nothing", x, -6, x::law);
        C.due("FAULT of nothing", x.fault(), 0);
        C.accepted("law()", x, 0, () -> Checks.law(x, "bars"));
        C.due("the TAPE", x.count(8), 0);
        C.refused("law() behind it", x, -6, x::law);
        for (int n = 1; n <= 400; n += 57) {
            int blanks = n;
            C.refused(n + " blanks", x, -6, () -> Checks.law(x, " ".repeat(blanks)));
            C.due("FAULT of " + n + " blanks", x.fault(), n);
            C.due("the TAPE behind " + n, x.count(8), 0);
            C.refused(n + " blanks as ORDERS", x, -6, () -> Checks.orders(x, " ".repeat(blanks)));
            C.due("FAULT of " + n + " blanks as ORDERS", x.fault(), n);
        }
        C.accepted("the next LAW", x, 1, () -> Checks.law(x, "bars"));
    }

    private static void lawWithoutRoom() {
        C.under("14: -5 (ahead of reading it; the TAPE is empty then, too)");
        TrainBearers x = new TrainBearers();
        for (int i = 0; i < 6; i++) {
            Checks.law(x, "bars");
        }
        C.due("FAULT of the sixth", x.fault(), NONE);
        C.refused("law() that can't be read", x, -5, () -> Checks.law(x, "what"));
        C.due("FAULT as it was", x.fault(), NONE);
        C.due("the TAPE", x.count(8), 0);
        C.refused("orders() that can't be read", x, -6, () -> Checks.orders(x, "rest 1"));
        C.due("FAULT of these", x.fault(), 5);
        C.refused("law() that can be read", x, -5, () -> Checks.law(x, "bars"));
        C.due("FAULT of these still", x.fault(), 5);
        C.refused("law() of nothing", x, -5, x::law);
        x.image(0);
        x.back(0);
        C.refused("an IMAGE has no more room", x, -5, () -> Checks.law(x, "bars"));
    }

    private static void ordersHowMany() {
        C.under("15: ORDERS, the TAPE is empty then: how many were run. -3 one can't be; -6 (as for law())");
        TrainBearers x = new TrainBearers();
        C.accepted("none", x, 0, () -> Checks.orders(x, "rest if 1=2"));
        C.due("the TAPE", x.count(8), 0);
        C.accepted("one", x, 1, () -> Checks.orders(x, "rest"));
        C.accepted("the most", x, 240, () -> Checks.orders(x, "rest times 20" + ";rest times 20".repeat(11)));
        C.refused("one can't be", x, -3, () -> Checks.orders(x, "rest;drop 0"));
        C.due("the TAPE behind it", x.count(8), 0);
        C.refused("nothing", x, -6, x::orders);
        C.refused("a TEXT that can't be", x, -6, () -> Checks.orders(x, "rest;"));
        C.due("the TAPE behind that", x.count(8), 0);
    }

    private static void fault() {
        C.under("16: FAULT of the latest law(), orders() that read a TEXT: its place; NONE without");
        TrainBearers x = new TrainBearers();
        C.due("ahead of any", x.fault(), NONE);
        Checks.law(x, "bars 1");
        C.asked("of a LAW", x, 5, x::fault);
        Checks.orders(x, "rest");
        C.asked("of ORDERS without", x, NONE, x::fault);
        Checks.orders(x, "rest times 0");
        C.asked("of ORDERS", x, 11, x::fault);
        x.row();
        x.rest();
        x.undo();
        C.asked("of ORDERS still", x, 11, x::fault);
        Checks.law(x, "bars");
        C.asked("of a LAW without", x, NONE, x::fault);
        x.law();
        C.asked("of nothing", x, 0, x::fault);
        Checks.orders(x, "drop 0");
        C.asked("of ORDERS of which one can't be", x, NONE, x::fault);
    }

    private static void stopped() {
        C.under("17: Which CLAUSE of the latest orders() could not be. NONE");
        TrainBearers x = new TrainBearers();
        C.due("ahead of any", x.stopped(), NONE);
        for (int c = 0; c < 12; c++) {
            Checks.orders(x, "rest;".repeat(c) + "drop 0" + ";rest".repeat(11 - c));
            C.asked("CLAUSE " + c, x, c, x::stopped);
        }
        Checks.law(x, "bars");
        x.drop(0);
        C.asked("others leave it", x, 11, x::stopped);
        Checks.orders(x, "rest");
        C.asked("all were run", x, NONE, x::stopped);
        Checks.orders(x, "drop 0");
        C.asked("the first", x, 0, x::stopped);
        Checks.orders(x, "drop 0;");
        C.asked("no CLAUSE was run", x, NONE, x::stopped);
        Checks.orders(x, "rest times 7 if done<3;drop 0 times 2 if 1=1");
        C.asked("the second, at its first time", x, 1, x::stopped);
    }

    private static void force() {
        C.under("18: A LAW is in FORCE (NONE: none): which was. -2");
        TrainBearers x = new TrainBearers();
        C.refused("force(0) without LAWS", x, -2, () -> x.force(0));
        C.accepted("force(NONE) of none", x, NONE, () -> x.force(NONE));
        Checks.law(x, "bars");
        C.accepted("force(0)", x, NONE, () -> x.force(0));
        C.refused("force(1)", x, -2, () -> x.force(1));
        for (int b : BEYOND) {
            C.refused("force(" + b + ")", x, -2, () -> x.force(b));
        }
        C.accepted("force(0) again", x, 0, () -> x.force(0));
        C.accepted("force(NONE)", x, 0, () -> x.force(NONE));
        C.accepted("force(NONE) again", x, NONE, () -> x.force(NONE));
    }

    private static void walkCutOff() {
        C.under("21: what was BROUGHT (what 9,999 cuts off, too)");
        TrainBearers x = Checks.made(Checks.yards(20, 20, 20, 20, 20, 20, 20, 20), 0);
        C.inForce(x, "brings 99");
        x.lane(0, 1, 0);
        for (int i = 1; i <= 12; i++) {
            C.due("walk " + i, x.walk(i % 2), 792);
            C.due("FATE", x.count(3), 792 * i);
        }
        C.due("walk 13", x.walk(1), 792);
        C.due("FATE at the most", x.count(3), 9999);
        C.due("walk 14", x.walk(0), 792);
        C.due("FATE at the most still", x.count(3), 9999);
    }

    private static void undoSixteen() {
        C.under("23: 16 are kept");
        for (int n = 0; n <= 18; n++) {
            TrainBearers x = new TrainBearers();
            for (int i = 0; i < n; i++) {
                x.rest();
            }
            int kept = Math.min(16, n);
            C.due("count(7) of " + n, x.count(7), kept);
            for (int i = kept - 1; i >= 0; i--) {
                C.accepted("undo() of " + n, x, 3, x::undo);
                C.due("count(7)", x.count(7), i);
            }
            C.due("the HOUR of those not kept", x.count(15), n - kept);
            C.refused("one more of " + n, x, -3, x::undo);
        }
    }

    private static void undoRing() {
        C.under("23: The latest .. is undone: 0 .. 3 (16 are kept, round and round)");
        TrainBearers x = Checks.made(Checks.yards(9), 5);
        x.lane(0, 1, 0);
        // Hold, walk, rest, drop in turn: whatever falls out of the sixteen, the latest come first.
        int[] kinds = {0, 2, 3, 1};
        for (int i = 0; i < 50; i++) {
            switch (i % 4) {
                case 0 -> x.hold(0, 0);
                case 1 -> x.walk(1 - x.count(4));
                case 2 -> x.rest();
                default -> x.drop(0);
            }
            C.due("count(7) behind " + i, x.count(7), Math.min(16, i + 1));
        }
        for (int i = 49; i >= 34; i--) {
            C.due("undo() of " + i, x.undo(), kinds[i % 4]);
            C.due("the YARD behind undo() of " + i, x.of(0, 2), i % 4 == 0 ? NONE : 0);
            C.due("the HOUR behind undo() of " + i, x.count(15), (i + 1) / 4);
            C.due("the PLACE behind undo() of " + i, x.count(4), (i + 2) / 4 % 2);
        }
        C.refused("the 17th", x, -3, x::undo);
        for (int i = 0; i < 17; i++) {
            x.rest();
        }
        C.due("16 again", x.count(7), 16);
    }

    private static void undoByOrders() {
        C.under("23: The latest hold(), drop(), walk(), rest() (by ORDERS, too)");
        TrainBearers x = Checks.made(Checks.yards(9), 5);
        x.lane(0, 1, 0);
        x.rest();
        C.due("orders()", Checks.orders(x, "hold 0 at 0;walk 1;drop 0;rest times 12"), 15);
        C.due("count(7)", x.count(7), 16);
        C.due("one more", Checks.orders(x, "rest"), 1);
        C.due("count(7) still", x.count(7), 16);
        C.due("none run", Checks.orders(x, "rest if 1=2"), 0);
        C.due("count(7) as it was", x.count(7), 16);
        for (int i = 0; i < 13; i++) {
            C.due("undo() of a REST", x.undo(), 3);
        }
        C.due("undo() of a DROP", x.undo(), 1);
        C.due("her YARD", x.of(0, 2), 0);
        C.due("undo() of a WALK", x.undo(), 2);
        C.due("FATE", x.count(3), 0);
        C.due("MUD", x.at(0, 1), 0);
        C.due("TIRED", x.of(0, 1), 0);
        C.due("undo() of a HOLD", x.undo(), 0);
        C.refused("the first REST was one too many", x, -3, x::undo);
        C.due("the HOUR", x.count(15), 1);
    }

    private static void undoEnds() {
        C.under("23: nothing that was ahead of a yard(), girl(), terms() that was not REFUSED can be undone");
        TrainBearers x = Checks.made(Checks.yards(9), 5);
        IntSupplier[] refused = {() -> x.yard(0), () -> x.yard(21), () -> x.girl(-1), () -> x.girl(10), () -> x.terms(0, 1000),
            () -> x.terms(3, 0), () -> x.terms(-1, 0)};
        for (IntSupplier call : refused) {
            x.rest();
            int kept = x.count(7);
            C.due("REFUSED", call.getAsInt(), -1);
            C.due("count(7) behind what is REFUSED", x.count(7), kept);
        }
        IntSupplier[] ends = {() -> x.yard(1), () -> x.girl(1), () -> x.terms(0, 5), () -> x.terms(1, 1), () -> x.terms(2, 0)};
        for (int i = 0; i < ends.length; i++) {
            x.rest();
            x.rest();
            ends[i].getAsInt();
            C.due("count(7) behind end " + i, x.count(7), 0);
            C.refused("undo() behind end " + i, x, -3, x::undo);
            x.rest();
            C.due("count(7) of what came behind it", x.count(7), 1);
            C.due("undo() of that", x.undo(), 3);
            C.refused("no further", x, -3, x::undo);
        }
        for (int i = 0; i < 8; i++) {
            x.yard(1);
            x.girl(1);
        }
        x.rest();
        C.refused("a ninth YARD", x, -5, () -> x.yard(1));
        C.refused("a ninth GIRL", x, -5, () -> x.girl(1));
        C.due("count(7) behind them", x.count(7), 1);
    }

    private static void undoOfNothingElse() {
        C.under("23: other calls neither end what can be undone nor are undone");
        TrainBearers x = Checks.made(Checks.yards(9), 5);
        x.lane(0, 1, 4);
        x.hold(0, 0);
        x.walk(1);
        x.lane(0, 1, NONE);
        Checks.row(x, 2, 3, 1);
        x.seen(0, 3);
        C.inForce(x, "bars;lifts 1");
        x.image(0);
        x.generations(1, 60);
        Checks.orders(x, "drop 5");
        C.due("count(7)", x.count(7), 2);
        C.due("undo() of the WALK, without its LANE", x.undo(), 2);
        C.due("the PLACE", x.count(4), 0);
        C.due("the LANE is none", x.stiles(0, 1), NONE);
        C.due("the ROW's LANE stays", x.stiles(2, 3), 1);
        C.due("SEEN stays", x.count(5), 1);
        C.due("in FORCE", x.count(14), 0);
        C.due("undo() of the HOLD, though she is BARRED", x.undo(), 0);
        C.due("her YARD", x.of(0, 2), NONE);
    }

    private static void borneWhat() {
        C.under("24: what is BROUGHT (what 0), how many GIRLS (1), the set at YARD y (2 + y). NONE");
        for (int yards = 0; yards <= 8; yards++) {
            TrainBearers x = new TrainBearers();
            for (int y = 0; y < yards; y++) {
                x.yard(1);
                x.girl(1);
            }
            C.asked("borne(0) of " + yards, x, 0, () -> x.borne(0));
            C.asked("borne(1) of " + yards, x, yards, () -> x.borne(1));
            for (int y = 0; y < yards; y++) {
                int what = 2 + y;
                C.asked("borne(" + what + ") of " + yards, x, 1 << y, () -> x.borne(what));
            }
            int beyond = 2 + yards;
            C.asked("borne(" + beyond + ") of " + yards, x, NONE, () -> x.borne(beyond));
            C.asked("borne(-1)", x, NONE, () -> x.borne(-1));
            for (int b : BEYOND) {
                C.due("borne(" + b + ")", x.borne(b), NONE);
            }
        }
    }

    private static void drawnWhat() {
        C.under("38: TIRED (what 0), the YARD (1; NONE) of GIRL k, MUD (2) of YARD k. NONE");
        TrainBearers x = Checks.made(Checks.yards(9, 7, 5), 5, 3);
        for (int what = -1; what <= 3; what++) {
            C.due("drawn(0, " + what + ") ahead of any", x.drawn(0, what), NONE);
        }
        x.generations(3, 1);
        // By the draws of seed 3 it is girl 0 who holds: girl 1 holds none.
        C.due("TIRED of GIRL 1", x.drawn(1, 0), 0);
        C.due("TIRED of GIRL 2", x.drawn(2, 0), NONE);
        C.due("the YARD of GIRL 2", x.drawn(2, 1), NONE);
        C.due("MUD of YARD 2", x.drawn(2, 2), 0);
        C.due("MUD of YARD 3", x.drawn(3, 2), NONE);
        C.due("the YARD of GIRL 1", x.drawn(1, 1), NONE);
        C.due("what 3", x.drawn(0, 3), NONE);
        C.due("what -1", x.drawn(0, -1), NONE);
        for (int b : BEYOND) {
            for (int what = 0; what <= 2; what++) {
                C.due("drawn(" + b + ", " + what + ")", x.drawn(b, what), NONE);
            }
            C.due("drawn(0, " + b + ")", x.drawn(0, b), NONE);
        }
    }

    private static void drawnOfTheLatest() {
        C.under("37: GENERATIONS, kept as the latest");
        TrainBearers x = Checks.made(Checks.yards(9, 7), 5, 3);
        x.lane(0, 5, 3);
        x.generations(1_000_000, 2);
        C.due("she HOLDS", x.drawn(0, 1), 0);
        x.generations(-1, 1);
        x.generations(0, 61);
        C.due("REFUSED ones are not kept", x.drawn(0, 1), 0);
        x.hold(0, 1);
        x.rest();
        x.undo();
        C.due("what is done later is none of it", x.drawn(0, 1), 0);
        x.yard(5);
        x.girl(5);
        C.due("nor a GIRL who comes later", x.drawn(2, 0), NONE);
        C.due("nor a YARD", x.drawn(2, 2), NONE);
        x.generations(1_000_000, 1);
        C.due("the latest", x.drawn(0, 1), 1);
        C.due("with her", x.drawn(2, 0), 0);
        C.due("with it", x.drawn(2, 2), 0);
    }

    private static void count() {
        C.under("41: 0 .. 17. NONE for others");
        TrainBearers x = Checks.made(Checks.yards(9, 7, 5), 5, 3);
        x.lane(0, 4, 1);
        x.terms(1, 6);
        x.terms(2, 7);
        x.hold(0, 0);
        x.walk(4);
        x.rest();
        x.seen(0, 1);
        x.seen(0, 1);
        Checks.law(x, "bars");
        Checks.law(x, "bars");
        x.force(1);
        x.yard(0);
        x.hold(7, 7);
        x.hold(7, 7);
        x.drop(1);
        x.drop(1);
        x.drop(1);
        x.row();
        Checks.feed(x, "rest");
        int[] want = {3, 2, 1, 4 + 7 + 5, 4, 2, 2, 3, 4, 1, 2, 3, 0, 1, 1, 1, 6, 7};
        for (int what = 0; what < want.length; what++) {
            int asked = what;
            C.asked("count(" + what + ")", x, want[what], () -> x.count(asked));
        }
        C.asked("count(18)", x, NONE, () -> x.count(18));
        C.asked("count(-1)", x, NONE, () -> x.count(-1));
        for (int b : BEYOND) {
            C.asked("count(" + b + ")", x, NONE, () -> x.count(b));
        }
    }

    private static void countRefused() {
        C.under("41: 9 .. 13 how many calls were REFUSED by -1, -2, -3, -5, -6 (IMAGES do not keep that)");
        TrainBearers x = Checks.made(Checks.yards(1, 1, 1, 1, 1, 1, 1, 1), 1);
        x.image(0);
        for (int i = 1; i <= 5; i++) {
            C.refused("by -1", x, -1, () -> x.yard(0));
            C.refused("by -2", x, -2, () -> x.drop(5));
            C.refused("by -3", x, -3, () -> x.drop(0));
            C.refused("by -5", x, -5, () -> x.yard(1));
            C.refused("by -6", x, -6, x::row);
            x.back(0);
            for (int what = 9; what <= 13; what++) {
                C.due("count(" + what + ") behind back()", x.count(what), i);
            }
        }
        // A clause that can't be is no call: its orders() alone are refused.
        C.refused("orders()", x, -3, () -> Checks.orders(x, "hold 7 at 0"));
    }

    private static void statusOfEach() {
        C.under("42: What the latest call of .. was REFUSED by; 0 if it was not, or ahead of any");
        TrainBearers x = Checks.made(Checks.yards(9), 5, 5);
        x.lane(0, 1, 1);
        C.accepted("yard", x, 1, () -> x.yard(1));
        C.refused("yard", x, -1, () -> x.yard(0));
        C.accepted("girl", x, 2, () -> x.girl(1));
        C.refused("girl", x, -1, () -> x.girl(10));
        C.accepted("lane", x, 1, () -> x.lane(0, 1, 2));
        C.refused("lane", x, -1, () -> x.lane(0, 0, 2));
        C.accepted("lane that answers -1", x, NONE, () -> x.lane(0, 2, 2));
        C.refused("terms", x, -1, () -> x.terms(3, 2));
        C.accepted("terms", x, 0, () -> x.terms(2, 2));
        C.refused("row", x, -6, x::row);
        C.accepted("row", x, 1, () -> Checks.row(x, 3, 4, 5));
        C.refused("law", x, -6, x::law);
        C.accepted("law", x, 0, () -> Checks.law(x, "lifts 4"));
        C.refused("orders by -6", x, -6, x::orders);
        C.accepted("orders", x, 1, () -> Checks.orders(x, "rest"));
        C.refused("orders by -3", x, -3, () -> Checks.orders(x, "drop 0"));
        C.accepted("force that answers -1", x, NONE, () -> x.force(0));
        C.refused("force", x, -2, () -> x.force(1));
        C.accepted("hold", x, 5, () -> x.hold(0, 0));
        C.refused("hold by -3", x, -3, () -> x.hold(0, 0));
        C.refused("hold by -2", x, -2, () -> x.hold(3, 0));
        C.accepted("drop", x, 0, () -> x.drop(0));
        C.refused("drop by -3", x, -3, () -> x.drop(0));
        C.refused("drop by -2", x, -2, () -> x.drop(3));
        C.accepted("walk", x, 10, () -> x.walk(1));
        C.refused("walk by -1", x, -1, () -> x.walk(6));
        C.refused("walk by -3", x, -3, () -> x.walk(5));
        C.accepted("rest", x, 2, x::rest);
        C.accepted("undo", x, 3, x::undo);
        x.terms(0, 999);
        C.refused("rest", x, -3, x::rest);
        C.refused("undo", x, -3, x::undo);
        C.accepted("seen", x, 1, () -> x.seen(0, 0));
        C.refused("seen by -1", x, -1, () -> x.seen(0, 41));
        C.refused("seen by -2", x, -2, () -> x.seen(2, 40));
        C.accepted("generations", x, 0, () -> x.generations(1, 1));
        C.refused("generations", x, -1, () -> x.generations(1, 0));
        C.accepted("image", x, 0, () -> x.image(0));
        C.refused("image", x, -1, () -> x.image(2));
        C.accepted("back", x, 0, () -> x.back(0));
        C.refused("back by -1", x, -1, () -> x.back(2));
        C.refused("back by -2", x, -2, () -> x.back(1));
    }

    private static void statusOfOthers() {
        C.under("42: of no other call");
        TrainBearers x = Checks.made(Checks.yards(9), 5, 5);
        for (int turn = 0; turn < 2; turn++) {
            int status = turn == 0 ? 0 : -2;
            if (turn == 1) {
                x.drop(9);
            }
            IntSupplier[] others = {() -> x.at(9, 0), () -> x.at(0, 0), () -> x.of(9, 0), () -> x.of(0, 2), () -> x.asks(9, 9, 9),
                () -> x.asks(0, 0, 0), () -> x.stiles(9, 9), () -> x.stiles(0, 1), () -> x.feed(1, 1, 1, 1, 1), () -> x.end(99),
                () -> x.end(0), x::puddles, x::fault, x::stopped, () -> x.borne(99), () -> x.borne(0), () -> x.exchanged(9),
                () -> x.exchanged(0), x::forget, x::letGo, () -> x.look(9), () -> x.look(0), () -> x.way(9, 9),
                () -> x.way(0, NONE), () -> x.brought(9), () -> x.brought(0), () -> x.folds(99, 9), () -> x.folds(9, 0),
                () -> x.resting(9), x::far, () -> (int) x.steady(), () -> x.compare(9), () -> x.compare(NONE),
                () -> x.drawn(9, 9), () -> x.count(99), x::status};
            for (int i = 0; i < others.length; i++) {
                int refused = x.count(9) + x.count(10) + x.count(11) + x.count(12) + x.count(13);
                others[i].getAsInt();
                C.due("status() behind other call " + i, x.status(), status);
                C.due("REFUSED behind other call " + i,
                    x.count(9) + x.count(10) + x.count(11) + x.count(12) + x.count(13), refused);
            }
        }
    }

    private static void callsUpTo512() {
        C.under("An object is used for at most 512 calls after it has been made");
        TrainBearers x = new TrainBearers();
        int calls = 0;
        for (int i = 0; i < 255; i++) {
            C.due("rest() " + i, x.rest(), i + 1);
            calls++;
        }
        for (int i = 0; i < 16; i++) {
            C.due("undo() " + i, x.undo(), 3);
            calls++;
        }
        for (int i = 0; i < 120; i++) {
            C.due("yard(0) " + i, x.yard(0), -1);
            C.due("undo() then " + i, x.undo(), -3);
            calls += 2;
        }
        C.due("calls so far", calls, 511);
        C.due("the 512th: the HOUR", x.count(15), 239);
        TrainBearers y = new TrainBearers();
        for (int i = 0; i < 510; i++) {
            y.row();
        }
        C.due("the 511th", y.count(13), 510);
        C.due("the 512th", y.status(), -6);
    }
}
