/** Terms III of the document, sentence by sentence: each bound that it names, and one step beyond it. */
public final class TermsThreeTest {
    private static final int NONE = TrainBearers.NONE;
    private static final int LEAST = Integer.MIN_VALUE;
    private static final int MOST = Integer.MAX_VALUE;
    private static final long CERTAIN = 1_000_000_000_000L;
    private static final Checks C = new Checks("TermsThreeTest");

    private TermsThreeTest() {
    }

    public static void main(String[] args) {
        toHold();
        toDrop();
        toWalk();
        toWalkOnlyWhatDips();
        toWalkAskedAhead();
        aRest();
        borneByTwos();
        borneOfTheFewest();
        borneWithMud();
        borneOfFewerYards();
        borneTheFirst();
        borneNotBarred();
        borneOfAll();
        exchangedWho();
        exchangedLess();
        exchangedLowest();
        exchangedBarred();
        letGo();
        look();
        lookLowest();
        lookOfAll();
        lookOfThese();
        lookOfFewerYards();
        wayOfFewestStiles();
        wayFirst();
        wayThereNow();
        broughtOnAWay();
        folds();
        foldsAsLongAsCanBe();
        resting();
        restingHours();
        far();
        steady();
        compared();
        C.finish();
    }

    private static void toHold() {
        C.under("To HOLD a YARD: a GIRL who does not hold it, is not BARRED; fewer than two do");
        TrainBearers x = Checks.made(Checks.yards(20, 20), 1, 2, 3);
        C.accepted("the first of none", x, 19, () -> x.hold(0, 0));
        C.refused("who holds it", x, -3, () -> x.hold(0, 0));
        C.accepted("fewer than two", x, 17, () -> x.hold(1, 0));
        C.refused("two do", x, -3, () -> x.hold(2, 0));
        C.refused("who holds it, as one of two", x, -3, () -> x.hold(1, 0));
        C.accepted("she lets go of another one", x, 19, () -> x.hold(0, 1));
        C.due("who hold YARD 0", x.at(0, 2), 2);
        C.due("who hold YARD 1", x.at(1, 2), 1);
        C.accepted("fewer than two again", x, 15, () -> x.hold(2, 0));
        C.inForce(x, "bars if girl=0 and yard=0;lifts 0");
        x.drop(1);
        C.refused("BARRED", x, -3, () -> x.hold(0, 0));
        C.accepted("another one is not", x, 20, () -> x.hold(1, 0));
        C.inForce(x, "bars");
        C.due("BARRED behind it: who hold", x.count(2), 3);
        C.accepted("she may DROP it", x, 1, () -> x.drop(0));
        C.refused("but not HOLD it", x, -3, () -> x.hold(0, 1));
    }

    private static void toDrop() {
        C.under("To DROP: she holds none");
        TrainBearers x = Checks.made(Checks.yards(20, 20), 1, 2);
        C.refused("who holds none", x, -3, () -> x.drop(0));
        x.hold(0, 1);
        x.hold(1, 1);
        C.accepted("who holds one", x, 1, () -> x.drop(0));
        C.due("her YARD", x.of(0, 2), NONE);
        C.due("who hold it", x.at(1, 2), 2);
        C.refused("who dropped it", x, -3, () -> x.drop(0));
        C.accepted("the other one", x, 1, () -> x.drop(1));
        C.due("who hold it at last", x.at(1, 2), 0);
        x.hold(0, 0);
        C.accepted("of YARD 0", x, 0, () -> x.drop(0));
    }

    private static void toWalk() {
        C.under("To WALK along a LANE");
        TrainBearers x = Checks.made(Checks.yards(5), 4, 4);
        C.refused("without a LANE", x, -3, () -> x.walk(5));
        x.lane(0, 5, 0);
        C.refused("to where it is", x, -3, () -> x.walk(0));
        x.hold(0, 0);
        C.accepted("with a LANE", x, 1, () -> x.walk(5));
        C.due("the train is there", x.count(4), 5);
        C.due("who holds a YARD is TIRED", x.of(0, 1), 1);
        C.due("who holds none is not", x.of(1, 1), 0);
        C.due("the HOUR stays", x.count(15), 0);
        x.lane(0, 5, NONE);
        C.refused("the LANE is gone", x, -3, () -> x.walk(0));
    }

    private static void toWalkOnlyWhatDips() {
        C.under("FATE is more by what all YARDS that DIP BRING, MUD of these one more (9 at most)");
        TrainBearers x = Checks.made(Checks.yards(4, 5, 6), 5, 5, 5);
        x.lane(0, 1, 0);
        x.hold(0, 0);
        x.hold(1, 1);
        x.hold(2, 2);
        C.due("walk(1)", x.walk(1), 1);
        C.due("MUD of what is held by more", x.at(0, 1), 0);
        C.due("MUD of what is held just", x.at(1, 1), 0);
        C.due("MUD of what DIPS by 1", x.at(2, 1), 1);
        C.inForce(x, "brings 0");
        C.due("walk(0), a DIP that brings nothing", x.walk(0), 0);
        C.due("MUD of it, too", x.at(2, 1), 2);
        C.inForce(x, "brings 7;lifts 20");
        C.due("walk(1), nothing DIPS", x.walk(1), 0);
        C.due("MUD as it was", x.at(2, 1), 2);
        TrainBearers all = Checks.made(Checks.yards(20, 20, 20, 20, 20, 20, 20, 20));
        C.inForce(all, "brings 99");
        all.lane(0, 1, 0);
        C.due("walk(1), the most that eight bring", all.walk(1), 792);
    }

    private static void toWalkAskedAhead() {
        C.under("all asked as it was ahead");
        TrainBearers x = Checks.made(Checks.yards(9), 4, 4);
        x.lane(0, 1, 0);
        x.hold(0, 0);
        x.hold(1, 0);
        // Were the mud or the first girl's tiredness counted already, she would tire by more.
        C.inForce(x, "tires mud+1;lifts 4-tired;brings dip*10+mud");
        C.due("walk(1)", x.walk(1), 10);
        C.due("TIRED of GIRL 0", x.of(0, 1), 1);
        C.due("TIRED of GIRL 1", x.of(1, 1), 1);
        C.due("walk(0)", x.walk(0), 41);
        C.due("TIRED of GIRL 0 then", x.of(0, 1), 3);
        C.due("TIRED of GIRL 1 then", x.of(1, 1), 3);
        C.due("MUD", x.at(0, 1), 2);
    }

    private static void aRest() {
        C.under("A REST: all are one less TIRED (0 at least); it is the next HOUR (at 999 it can't be)");
        TrainBearers x = Checks.made(Checks.yards(5), 4, 4);
        x.lane(0, 1, 1);
        x.hold(0, 0);
        x.walk(1);
        C.due("TIRED ahead of it", x.of(0, 1), 2);
        C.accepted("rest()", x, 1, x::rest);
        C.due("one less", x.of(0, 1), 1);
        C.due("0 at least", x.of(1, 1), 0);
        x.terms(0, 998);
        C.accepted("rest() at 998", x, 999, x::rest);
        C.due("one less again", x.of(0, 1), 0);
        C.refused("rest() at 999", x, -3, x::rest);
        C.due("undo() of that at 998", x.undo(), 3);
        C.due("the HOUR ahead of it", x.count(15), 998);
        C.due("TIRED ahead of it", x.of(0, 1), 1);
        x.terms(0, 999);
        C.refused("rest() at 999 with a GIRL who is TIRED", x, -3, x::rest);
        C.due("she is as TIRED", x.of(0, 1), 1);
    }

    private static void borneByTwos() {
        C.under("BORNE: all GIRLS to YARDS, two at most of each (whatever they hold now)");
        TrainBearers x = Checks.made(Checks.yards(20), 5, 5, 5);
        C.due("two of three", x.borne(0), 10);
        C.due("GIRLS", x.borne(1), 2);
        C.due("the first two", x.borne(2), 3);
        x.hold(2, 0);
        C.due("whatever they hold now", x.borne(2), 3);
        C.due("BROUGHT all the same", x.borne(0), 10);
        TrainBearers one = Checks.made(Checks.yards(20), 5);
        C.due("one of one", one.borne(0), 15);
        C.due("her", one.borne(2), 1);
        TrainBearers none = Checks.made(Checks.yards(20, 3));
        C.due("none of none", none.borne(0), 23);
        C.due("no GIRLS", none.borne(1), 0);
        C.due("nobody", none.borne(3), 0);
        TrainBearers bare = Checks.made(Checks.yards(), 5);
        C.due("no YARDS", bare.borne(0), 0);
        C.due("no GIRLS are needed", bare.borne(1), 0);
        C.due("no YARD", bare.borne(2), NONE);
    }

    private static void borneOfTheFewest() {
        C.under("so that the DIPS BRING least together, then of the fewest GIRLS");
        TrainBearers x = Checks.made(Checks.yards(9), 4, 5, 9);
        C.due("nothing is BROUGHT", x.borne(0), 0);
        C.due("by one GIRL rather than by two", x.borne(1), 1);
        C.due("by her", x.borne(2), 4);
        TrainBearers y = Checks.made(Checks.yards(10), 4, 5, 9);
        C.due("nothing is BROUGHT of 10", y.borne(0), 0);
        C.due("by two, as one is too few", y.borne(1), 2);
        C.due("by the first two who can", y.borne(2), 5);
        TrainBearers z = Checks.made(Checks.yards(15), 4, 5, 9);
        C.due("one less is BROUGHT", z.borne(0), 1);
        C.due("by two", z.borne(1), 2);
        C.due("by the strongest", z.borne(2), 6);
        TrainBearers weak = Checks.made(Checks.yards(5, 5), 0, 0);
        C.due("GIRLS who lift nothing are not needed", weak.borne(1), 0);
    }

    private static void borneWithMud() {
        C.under("BORNE: .. so that the DIPS BRING least together (HEAVY and MUD)");
        TrainBearers x = Checks.made(Checks.yards(5, 5), 5, 6);
        x.lane(0, 1, 0);
        C.due("without MUD GIRL 0 at YARD 0", x.borne(2), 1);
        x.hold(0, 0);
        x.walk(1);
        x.rest();
        // Yard 1 alone got mud: it is for the stronger one still.
        C.due("with MUD 0 is BROUGHT", x.borne(0), 0);
        C.due("GIRL 1 at YARD 1", x.borne(3), 2);
        x.drop(0);
        x.hold(0, 1);
        x.walk(0);
        x.rest();
        C.due("MUD of YARD 0", x.at(0, 1), 1);
        C.due("MUD of YARD 1", x.at(1, 1), 2);
        C.due("6 and 7 less 5 and 6", x.borne(0), 2);
    }

    private static void borneOfFewerYards() {
        C.under("BORNE: .. of the YARDS there are (behind back())");
        TrainBearers x = Checks.made(Checks.yards(5, 7), 5, 7, 9, 3);
        x.image(0);
        int[] was = {x.borne(0), x.borne(1), x.borne(2), x.borne(3)};
        x.yard(20);
        x.yard(20);
        x.girl(9);
        C.due("of four YARDS", x.borne(0), 52 - 33);
        x.back(0);
        for (int what = 0; what < was.length; what++) {
            C.due("borne(" + what + ") of two again", x.borne(what), was[what]);
        }
        C.due("borne(0) of 5, 7", was[0], 0);
        C.due("borne(1) of 5, 7", was[1], 2);
        C.due("borne(4) of two", x.borne(4), NONE);
        // Nobody is left over by a girl who lifts all, all are by one who lifts nothing.
        for (int strong : new int[] {0, 9}) {
            TrainBearers one = Checks.made(Checks.yards(9), strong);
            one.image(0);
            one.yard(20);
            C.due("of 9, 20 with STRONG " + strong, one.borne(0), 29 - strong);
            one.back(0);
            C.due("of 9 with STRONG " + strong, one.borne(0), 9 - strong);
            C.due("GIRLS of 9 with STRONG " + strong, one.borne(1), strong == 0 ? 0 : 1);
        }
    }

    private static void borneTheFirst() {
        C.under("the first as a row of sets of GIRLS (as bits) by YARDS");
        TrainBearers x = Checks.made(Checks.yards(9, 9), 3, 3);
        // With one at each or both at one as much is brought: the least at the first yard is none.
        C.due("none at YARD 0", x.borne(2), 0);
        C.due("both at YARD 1", x.borne(3), 3);
        TrainBearers y = Checks.made(Checks.yards(3, 3), 3, 3, 3);
        C.due("GIRL 0 at YARD 0", y.borne(2), 1);
        C.due("GIRL 1 at YARD 1", y.borne(3), 2);
        TrainBearers z = Checks.made(Checks.yards(9, 9), 3, 3, 3);
        C.due("the least set at YARD 0", z.borne(2), 1);
        C.due("the others at YARD 1", z.borne(3), 6);
    }

    private static void borneNotBarred() {
        C.under("BORNE: to YARDS they are not BARRED from");
        TrainBearers x = Checks.made(Checks.yards(5, 5), 5, 5);
        C.due("GIRL 0 at YARD 0", x.borne(2), 1);
        C.inForce(x, "bars if girl=0 and yard=0");
        C.due("GIRL 1 at YARD 0", x.borne(2), 2);
        C.due("GIRL 0 at YARD 1", x.borne(3), 1);
        C.inForce(x, "bars if girl=0");
        C.due("half is BROUGHT", x.borne(0), 5);
        C.due("nobody at YARD 0", x.borne(2), 0);
        C.due("GIRL 1 at YARD 1", x.borne(3), 2);
        x.force(NONE);
        x.hold(0, 0);
        x.hold(1, 1);
        C.inForce(x, "bars");
        C.due("all are BARRED", x.borne(0), 10);
        C.due("nobody", x.borne(1), 0);
        C.due("though they hold them", x.count(2), 2);
    }

    /** Eight yards and eight girls, with every row of sets tried. */
    private static void borneOfAll() {
        C.under("BORNE: all GIRLS, the first as a row of sets by YARDS (8 of both)");
        String[] laws = {"", "brings dip*dip%17+1", "brings dip*7%11;bars if girl=yard;bars if [girl+yard]%5=0"};
        for (String law : laws) {
            TrainBearers x = Checks.made(Checks.yards(9, 14, 3, 20, 7, 11, 5, 16), 3, 9, 1, 6, 2, 8, 5, 7);
            if (!law.isEmpty()) {
                C.inForce(x, law);
            }
            AllRows rows = new AllRows(x, law);
            for (int what = 0; what < 10; what++) {
                C.due("borne(" + what + ") by '" + law + "'", x.borne(what), rows.best[what]);
            }
        }
    }

    private static final class AllRows {
        private final int[][] brought = new int[8][256];
        private final int[] row = new int[10];
        int[] best;

        AllRows(TrainBearers x, String law) {
            for (int y = 0; y < 8; y++) {
                for (int set = 0; set < 256; set++) {
                    int dip = x.at(y, 0);
                    for (int g = 0; g < 8; g++) {
                        if ((set >> g & 1) == 1) {
                            dip -= x.asks(g, y, 0);
                            dip += x.asks(g, y, 1) * 1000;
                        }
                    }
                    brought[y][set] = dip <= 0 ? 0 : dip > 900 ? NONE : law.isEmpty() ? dip
                        : law.startsWith("brings dip*dip") ? dip * dip % 17 + 1 : dip * 7 % 11;
                }
            }
            choose(0, 255);
        }

        /** In the order of the rows, so that only a better one takes the place of the best. */
        private void choose(int yard, int free) {
            if (yard == 8) {
                if (best == null || row[0] < best[0] || row[0] == best[0] && row[1] < best[1]) {
                    best = row.clone();
                }
                return;
            }
            for (int set = 0; set <= free; set++) {
                if ((set & ~free) == 0 && Integer.bitCount(set) <= 2 && brought[yard][set] != NONE) {
                    row[0] += brought[yard][set];
                    row[1] += Integer.bitCount(set);
                    row[2 + yard] = set;
                    choose(yard + 1, free & ~set);
                    row[0] -= brought[yard][set];
                    row[1] -= Integer.bitCount(set);
                }
            }
        }
    }

    private static void exchangedWho() {
        C.under("EXCHANGED: of all twos of GIRLS, who hold unlike YARDS or one of them none");
        TrainBearers x = Checks.made(Checks.yards(9, 2), 2, 9);
        C.due("both hold none", x.exchanged(0), NONE);
        x.hold(0, 0);
        C.due("one of them none", x.exchanged(0), 1);
        C.due("BROUGHT then", x.exchanged(1), 2);
        x.hold(1, 0);
        C.due("both the same", x.exchanged(0), NONE);
        x.hold(1, 1);
        C.due("unlike ones", x.exchanged(0), 1);
        C.due("BROUGHT by unlike ones", x.exchanged(1), 0);
        x.drop(0);
        // Girl 0 would hold yard 1 in her place, and all of yard 0 dips as it does.
        C.due("the higher one alone holds", x.exchanged(0), NONE);
        C.due("one GIRL", Checks.made(Checks.yards(9), 5).exchanged(0), NONE);
        C.due("no GIRL", Checks.made(Checks.yards(9)).exchanged(0), NONE);
        C.due("no YARD", Checks.made(Checks.yards(), 5, 5).exchanged(0), NONE);
        for (int what : new int[] {-1, 2, LEAST, MOST}) {
            C.due("exchanged(" + what + ")", x.exchanged(what), NONE);
        }
    }

    private static void exchangedLess() {
        C.under("EXCHANGED: the DIPS BRING least, less than now");
        // Girl 0 of strong 3 holds the yard of 4, the other one that of 3: now 1 is brought.
        for (int strong = 1; strong <= 5; strong++) {
            TrainBearers x = Checks.made(Checks.yards(4, 3), 3, strong);
            x.hold(0, 0);
            x.hold(1, 1);
            int now = 1 + Math.max(0, 3 - strong);
            int then = Math.max(0, 4 - strong);
            C.due("STRONG " + strong + ", now", x.compare(NONE), now);
            C.due("STRONG " + strong, x.exchanged(0), then < now ? 1 : NONE);
            C.due("STRONG " + strong + ", BROUGHT", x.exchanged(1), then < now ? then : NONE);
        }
        TrainBearers much = Checks.made(Checks.yards(4, 3, 20, 20, 20, 20, 20, 20), 3, 4);
        much.hold(0, 0);
        much.hold(1, 1);
        C.due("one less of many", much.exchanged(0), 1);
        C.due("one less of 121", much.exchanged(1), 120);
        // The twos ahead of the best one are as they were when it is tried.
        TrainBearers three = Checks.made(Checks.yards(9, 2, 3), 3, 2, 9);
        three.hold(0, 2);
        three.hold(1, 0);
        three.hold(2, 1);
        C.due("the last of three twos", three.exchanged(0), 12);
        C.due("BROUGHT by it", three.exchanged(1), 0);
    }

    private static void exchangedLowest() {
        C.under("as ten times the lower and the higher one, the lowest");
        TrainBearers x = Checks.made(Checks.yards(9, 9), 1, 1, 3, 3);
        x.hold(0, 0);
        x.hold(1, 1);
        C.due("of four alike", x.exchanged(0), 2);
        x.drop(0);
        x.hold(2, 0);
        C.due("of one", x.exchanged(0), 13);
        TrainBearers y = Checks.made(Checks.yards(9, 9), 1, 3, 4);
        y.hold(0, 0);
        C.due("the least BROUGHT ahead of the lowest", y.exchanged(0), 2);
        TrainBearers z = Checks.made(Checks.yards(9), 0, 0, 0, 0, 0, 0, 1, 2);
        z.hold(6, 0);
        C.due("the highest twos", z.exchanged(0), 67);
        C.due("BROUGHT by them", z.exchanged(1), 7);
        TrainBearers most = Checks.made(Checks.yards(9, 9, 9, 9, 9, 9, 9, 2), 0, 0, 0, 0, 0, 0, 2, 9);
        C.inForce(most, "brings 99");
        most.hold(6, 6);
        most.hold(7, 7);
        C.due("now", most.compare(0), 693);
        C.due("the highest twos with the most that is BROUGHT", most.exchanged(0), 67);
        C.due("BROUGHT by the highest twos", most.exchanged(1), 594);
    }

    private static void exchangedBarred() {
        C.under("EXCHANGED: each what the other one held; BARRED aside");
        TrainBearers x = Checks.made(Checks.yards(9, 2), 2, 9);
        x.hold(0, 0);
        x.hold(1, 1);
        String[][] cases = {{"bars if girl=0 and yard=1", "-1"}, {"bars if girl=1 and yard=0", "-1"},
            {"bars if girl=0 and yard=0", "1"}, {"bars if girl=1 and yard=1", "1"}, {"bars if 1/0=0", "1"}, {"bars", "-1"}};
        for (String[] c : cases) {
            C.inForce(x, c[0]);
            C.due(c[0], x.exchanged(0), Integer.parseInt(c[1]));
        }
        TrainBearers y = Checks.made(Checks.yards(9), 2, 9);
        y.hold(0, 0);
        C.inForce(y, "bars if girl=0;bars if yard<0");
        C.due("who comes to hold none", y.exchanged(0), 1);
        C.inForce(y, "bars if girl=1");
        C.due("who comes to hold one", y.exchanged(0), NONE);
    }

    private static void letGo() {
        C.under("LET GO: GIRLS who hold a YARD by whom all SEEN would be so, if she alone let go");
        TrainBearers x = Checks.made(Checks.yards(20, 10, 1), 3, 5, 3, 0);
        C.due("none holds", x.letGo(), 0);
        x.hold(0, 0);
        x.hold(1, 0);
        x.hold(2, 1);
        C.due("nothing SEEN", x.letGo(), 7);
        x.hold(3, 2);
        C.due("nothing SEEN, all hold", x.letGo(), 15);
        x.seen(0, 15);
        C.due("20 less 5", x.letGo(), 1);
        x.forget();
        x.seen(0, 14);
        C.due("one less", x.letGo(), 0);
        x.forget();
        x.seen(0, 16);
        C.due("one more", x.letGo(), 0);
        x.forget();
        x.seen(0, 12);
        C.due("as with all who hold it", x.letGo(), 12);
        x.seen(1, 10);
        C.due("and 10 less none", x.letGo(), 4);
        for (int i = 2; i < 6; i++) {
            x.seen(2, 1);
        }
        C.due("six SEEN", x.letGo(), 4);
        x.forget();
        for (int i = 0; i < 5; i++) {
            x.seen(2, 1);
        }
        x.seen(2, 2);
        C.due("the sixth is not so", x.letGo(), 0);
        C.due("nothing is done", x.count(2), 4);
    }

    private static void look() {
        C.under("To LOOK at: the YARD of which of these the most by whom it would DIP alike are as few as can be");
        TrainBearers x = Checks.made(Checks.yards(20, 20), 3, 5);
        C.due("none", x.look(0), NONE);
        C.due("none, how many", x.look(1), NONE);
        x.hold(0, 1);
        C.due("one: the lowest", x.look(0), 0);
        C.due("one is left", x.look(1), 1);
        x.hold(1, 1);
        C.due("two of unlike strength", x.look(0), 1);
        C.due("one of them is left", x.look(1), 1);
        x.seen(0, 19);
        C.due("nobody by what was SEEN", x.look(0), NONE);
        C.due("nobody, how many", x.look(1), NONE);
        x.forget();
        for (int what : new int[] {-1, 2, LEAST, MOST}) {
            C.due("look(" + what + ")", x.look(what), NONE);
        }
        TrainBearers y = Checks.made(Checks.yards(20, 20), 4, 4);
        y.hold(0, 1);
        y.hold(1, 1);
        C.due("two who are alike", y.look(0), 0);
        C.due("both are left", y.look(1), 2);
        C.due("no YARDS", Checks.made(Checks.yards(), 4).look(0), NONE);
    }

    private static void lookLowest() {
        C.under("To LOOK at: .. the lowest");
        TrainBearers x = Checks.made(Checks.yards(20, 20, 20), 1, 2, 3, 4);
        x.hold(0, 1);
        x.hold(1, 1);
        x.hold(2, 2);
        x.hold(3, 2);
        // Of yards 1 and 2 the two who hold the other one are alike; yard 0 tells nothing of the four.
        C.due("the lower of two", x.look(0), 1);
        C.due("two are left", x.look(1), 2);
        TrainBearers all = Checks.made(Checks.yards(20, 20, 20, 20), 1, 2, 1, 2, 1, 2, 1, 2);
        for (int g = 0; g < 8; g++) {
            all.hold(g, g / 2);
        }
        C.due("eight, by twos", all.look(0), 0);
        C.due("six are left", all.look(1), 6);
    }

    private static void lookOfAll() {
        C.under("To LOOK at: .. of 8 GIRLS, 8 YARDS");
        TrainBearers x = Checks.made(Checks.yards(20, 20, 20, 20, 20, 20, 20, 20), 1, 2, 3, 4, 5, 6, 7, 8);
        for (int g = 0; g < 8; g++) {
            x.hold(g, g);
        }
        C.due("all who hold", x.letGo(), 255);
        C.due("YARD 0", x.look(0), 0);
        C.due("seven are left", x.look(1), 7);
        x.seen(7, 20);
        C.due("who held the last YARD", x.letGo(), 128);
        x.seen(0, 20);
        C.due("not both", x.letGo(), 0);
        TrainBearers weak = Checks.made(Checks.yards(20, 20, 20, 20, 20, 20, 20, 20), 0, 0, 0, 0, 0, 0, 0, 0);
        for (int g = 0; g < 8; g++) {
            weak.hold(g, g);
        }
        C.due("who lift nothing: the lowest", weak.look(0), 0);
        C.due("all eight are left", weak.look(1), 8);
        weak.seen(7, 20);
        C.due("all eight by what was SEEN", weak.letGo(), 255);
    }

    private static void lookOfThese() {
        C.under("To LOOK at: the YARD of which of these (LET GO)");
        TrainBearers x = Checks.made(Checks.yards(20, 20), 3, 3, 3, 4);
        x.hold(0, 0);
        x.hold(1, 1);
        x.hold(2, 0);
        C.due("nothing SEEN", x.letGo(), 7);
        C.due("two of them are alike", x.look(1), 2);
        x.seen(0, 17);
        C.due("those of YARD 0", x.letGo(), 5);
        C.due("both are left", x.look(1), 2);
        x.drop(2);
        x.hold(3, 0);
        x.forget();
        x.seen(1, 17);
        // Girl 1 is none of these, so that she is not alike with any: yard 0 tells 0 from 3.
        C.due("0 and 3", x.letGo(), 9);
        C.due("YARD 0", x.look(0), 0);
        C.due("one is left", x.look(1), 1);
        x.forget();
        x.seen(0, 13);
        C.due("1 alone", x.letGo(), 2);
        C.due("the lowest YARD", x.look(0), 0);
        C.due("one of one", x.look(1), 1);
    }

    private static void lookOfFewerYards() {
        C.under("To LOOK at: .. of the YARDS there are (behind back())");
        TrainBearers x = Checks.made(Checks.yards(20, 20), 4, 4, 1, 2);
        x.hold(0, 1);
        x.hold(1, 1);
        x.image(0);
        x.yard(20);
        x.hold(0, 2);
        x.hold(1, 2);
        x.drop(1);
        x.hold(2, 2);
        C.due("the third YARD", x.look(0), 2);
        C.due("one is left", x.look(1), 1);
        x.back(0);
        C.due("no third YARD", x.look(0), 0);
        C.due("two are left", x.look(1), 2);
    }

    private static void wayOfFewestStiles() {
        C.under("A WAY to a PLACE: LANES with the fewest STILES together, then the fewest LANES");
        TrainBearers x = new TrainBearers();
        for (int p = 0; p < 5; p++) {
            x.lane(p, p + 1, 9);
        }
        C.due("five LANES of 9", x.way(5, NONE), 45);
        for (int i = 0; i < 5; i++) {
            C.due("PLACE " + i, x.way(5, i), i + 1);
        }
        for (int i : new int[] {5, 6, MOST, -2, LEAST}) {
            C.due("way(5, " + i + ")", x.way(5, i), NONE);
        }
        for (int i = 1; i <= 8; i++) {
            C.due("beyond a WAY of one: way(1, " + i + ")", x.way(1, i), NONE);
        }
        x.lane(0, 2, 9);
        C.due("one less", x.way(5, NONE), 36);
        C.due("its first", x.way(5, 0), 2);
        C.due("its last", x.way(5, 3), 5);
        C.due("beyond its last", x.way(5, 4), NONE);
        TrainBearers y = new TrainBearers();
        y.lane(0, 1, 2);
        y.lane(1, 2, 2);
        y.lane(0, 2, 5);
        C.due("fewer STILES by more LANES", y.way(2, 0), 1);
        y.lane(0, 2, 4);
        C.due("as many STILES by fewer LANES", y.way(2, 0), 2);
        y.lane(0, 2, 3);
        C.due("fewer STILES by fewer LANES", y.way(2, NONE), 3);
        TrainBearers z = new TrainBearers();
        for (int p = 0; p < 5; p++) {
            z.lane(p, p + 1, 0);
        }
        z.lane(0, 5, 1);
        C.due("no STILES by five LANES", z.way(5, NONE), 0);
        C.due("the fifth of them", z.way(5, 4), 5);
        z.lane(0, 5, 0);
        C.due("no STILES by one", z.way(5, 0), 5);
    }

    private static void wayFirst() {
        C.under("A WAY to a PLACE: .. the first as a row of PLACES");
        TrainBearers x = new TrainBearers();
        x.lane(0, 3, 1);
        x.lane(3, 5, 1);
        x.lane(0, 4, 1);
        x.lane(4, 5, 1);
        C.due("by 3 ahead of 4", x.way(5, 0), 3);
        x.lane(0, 2, 1);
        x.lane(2, 5, 1);
        C.due("by 2 ahead of 3", x.way(5, 0), 2);
        x.lane(0, 1, 0);
        x.lane(1, 2, 1);
        C.due("not by more LANES", x.way(5, 0), 2);
        C.due("then there", x.way(5, 1), 5);
        x.lane(2, 5, NONE);
        C.due("by 3 again", x.way(5, 0), 3);
    }

    private static void wayThereNow() {
        C.under("A WAY .. (there now: none)");
        TrainBearers x = new TrainBearers();
        C.due("STILES to where it is", x.way(0, NONE), 0);
        C.due("no PLACE", x.way(0, 0), NONE);
        C.due("BROUGHT to where it is", x.brought(0), 0);
        C.due("no WAY", x.way(5, NONE), NONE);
        C.due("no PLACE of no WAY", x.way(5, 0), NONE);
        C.due("nothing BROUGHT on no WAY", x.brought(5), NONE);
        x.lane(0, 5, 9);
        x.lane(4, 3, 1);
        x.walk(5);
        C.due("STILES back", x.way(0, NONE), 9);
        C.due("STILES to where it is now", x.way(5, NONE), 0);
        C.due("no PLACE now", x.way(5, 0), NONE);
        C.due("no WAY to LANES elsewhere", x.way(3, NONE), NONE);
    }

    private static void broughtOnAWay() {
        C.under("BROUGHT on a WAY: what FATE is more by, walked so, nothing else being done");
        TrainBearers x = Checks.made(Checks.yards(5), 4);
        for (int p = 0; p < 5; p++) {
            x.lane(p, p + 1, 0);
        }
        x.hold(0, 0);
        int[] due = {0, 1, 1 + 3, 1 + 3 + 5, 1 + 3 + 5 + 7, 1 + 3 + 5 + 7 + 9};
        for (int p = 0; p < 6; p++) {
            int place = p;
            C.asked("brought(" + p + ")", x, due[p], () -> x.brought(place));
        }
        C.due("what can be undone", x.count(7), 1);
        for (int p = 1; p < 6; p++) {
            x.walk(p);
            C.due("FATE, walked so, to " + p, x.count(3), due[p]);
        }
    }

    private static void folds() {
        C.under("FOLDS of w 1 .. 60");
        TrainBearers x = Checks.made(Checks.yards(20, 20, 20));
        int[][] cases = {{60, 1}, {59, 2}, {40, 2}, {39, 3}, {20, 3}, {19, NONE}, {1, NONE}, {61, NONE}, {0, NONE},
            {-1, NONE}, {LEAST, NONE}, {MOST, NONE}};
        for (int[] c : cases) {
            C.asked("folds(" + c[0] + ", NONE)", x, c[1], () -> x.folds(c[0], NONE));
            C.due("folds(" + c[0] + ", 2)", x.folds(c[0], 2), c[1] == NONE ? NONE : c[1] - 1);
            C.due("folds(" + c[0] + ", 0)", x.folds(c[0], 0), c[1] == NONE ? NONE : 0);
            for (int yard : new int[] {3, -2, LEAST, MOST}) {
                C.due("folds(" + c[0] + ", " + yard + ")", x.folds(c[0], yard), NONE);
            }
        }
        TrainBearers one = Checks.made(Checks.yards(1));
        C.due("w 1 of HEAVY 1", one.folds(1, NONE), 1);
        one.lane(0, 1, 0);
        one.walk(1);
        C.due("w 1 of HEAVY 1, MUD 1", one.folds(1, NONE), NONE);
        C.due("w 2 of them", one.folds(2, NONE), 1);
        C.due("no YARDS", new TrainBearers().folds(60, NONE), 0);
        C.due("no YARDS, YARD 0", new TrainBearers().folds(60, 0), NONE);
        C.due("no YARDS, w 1", new TrainBearers().folds(1, NONE), 0);
        C.due("no YARDS, w 0", new TrainBearers().folds(0, NONE), NONE);
        C.due("no YARDS, w 61", new TrainBearers().folds(61, NONE), NONE);
        TrainBearers late = Checks.made(Checks.yards(1, 1, 9));
        C.due("the last can't be", late.folds(8, NONE), NONE);
        C.due("so none can", late.folds(8, 0), NONE);
    }

    private static void foldsAsLongAsCanBe() {
        C.under("FOLDS: .. the first as a row of FOLDS by YARDS, each as long as it can be");
        TrainBearers x = Checks.made(Checks.yards(3, 3, 3, 3, 3, 3, 3, 3));
        int[] by9 = {0, 0, 0, 1, 1, 1, 2, 2};
        int[] by8 = {0, 0, 1, 1, 2, 2, 3, 3};
        for (int y = 0; y < 8; y++) {
            C.due("folds(9, " + y + ")", x.folds(9, y), by9[y]);
            C.due("folds(8, " + y + ")", x.folds(8, y), by8[y]);
        }
        C.due("folds(9, NONE)", x.folds(9, NONE), 3);
        C.due("folds(8, NONE)", x.folds(8, NONE), 4);
        C.due("folds(24, NONE)", x.folds(24, NONE), 1);
        C.due("folds(23, NONE)", x.folds(23, NONE), 2);
        // Only those next to one another: 5 and 3 are not put together past the 9.
        TrainBearers y = Checks.made(Checks.yards(5, 9, 3, 6));
        C.due("folds(9, NONE) of 5, 9, 3, 6", y.folds(9, NONE), 3);
        C.due("folds(9, 2)", y.folds(9, 2), 2);
    }

    /** A girl of strong 9 who is tired by 9 holds a yard, at place 1 with a lane to 0. */
    private static TrainBearers worn(int heavy) {
        TrainBearers x = Checks.made(Checks.yards(heavy), 9);
        x.lane(0, 1, 9);
        x.hold(0, 0);
        x.walk(1);
        C.due("TIRED", x.of(0, 1), 9);
        return x;
    }

    private static void resting() {
        C.under("To REST for a PLACE (a LANE leads there): the fewest HOURS .. behind which a WALK there would BRING nothing");
        for (int heavy = 1; heavy <= 10; heavy++) {
            TrainBearers x = worn(heavy);
            C.asked("resting(0) of HEAVY " + heavy, x, heavy <= 9 ? heavy : NONE, () -> x.resting(0));
        }
        TrainBearers x = worn(5);
        C.due("where it is", x.resting(1), NONE);
        C.due("no LANE", x.resting(2), NONE);
        x.lane(1, 0, NONE);
        C.due("the LANE is gone", x.resting(0), NONE);
        TrainBearers bare = new TrainBearers();
        C.due("no LANE, nothing to carry", bare.resting(1), NONE);
        bare.lane(0, 1, 9);
        C.due("nothing to carry", bare.resting(1), 0);
    }

    private static void restingHours() {
        C.under("the fewest HOURS 0 .. 20");
        for (int hours = 0; hours <= 22; hours++) {
            TrainBearers x = Checks.made(Checks.yards(5));
            x.lane(0, 1, 0);
            C.inForce(x, "brings 0 if hour>" + hours + " or hour=" + hours);
            C.due("resting(1), nothing from HOUR " + hours, x.resting(1), hours <= 20 ? hours : NONE);
        }
        TrainBearers x = worn(5);
        int[][] cases = {{994, 5}, {995, NONE}, {999, NONE}, {0, 5}};
        for (int[] c : cases) {
            x.terms(0, c[0]);
            C.due("resting(0) of 5 at HOUR " + c[0], x.resting(0), c[1]);
        }
        C.inForce(x, "lifts 5");
        x.terms(0, 999);
        C.due("resting(0) of 0 at HOUR 999", x.resting(0), 0);
    }

    private static void far() {
        C.under("HOW FAR: .. all to which LANES lead, or none; as bits");
        TrainBearers x = Checks.made(Checks.yards(5, 3), 5, 2, 3);
        C.asked("no LANES, it DIPS", x, 0, x::far);
        for (int p = 1; p < 6; p++) {
            x.lane(0, p, p);
        }
        C.asked("it DIPS", x, 0, x::far);
        x.hold(0, 0);
        x.hold(1, 1);
        C.asked("it BRINGS 1", x, 0, x::far);
        x.hold(2, 1);
        C.asked("it BRINGS nothing", x, 62, x::far);
        x.lane(0, 5, NONE);
        C.asked("but to 5", x, 30, x::far);
        x.drop(0);
        C.inForce(x, "brings 0");
        C.asked("what DIPS BRINGS nothing", x, 30, x::far);
        C.inForce(x, "brings 1");
        C.asked("what DIPS BRINGS 1", x, 0, x::far);
        C.asked("no LANES, no YARDS", new TrainBearers(), 0, new TrainBearers()::far);
    }

    private static void steady() {
        C.under("GIRL by GIRL times (10 less STUMBLE times TIRED by 9, cut) by ten, cut");
        C.due("nobody", new TrainBearers().steady(), CERTAIN);
        for (int tired = 0; tired <= 9; tired++) {
            TrainBearers x = Checks.made(Checks.yards(1), 9, 9);
            C.inForce(x, "tires " + tired);
            x.lane(0, 1, 0);
            x.hold(0, 0);
            x.walk(1);
            for (int stumble = 0; stumble <= 10; stumble++) {
                x.terms(1, stumble);
                C.due("STUMBLE " + stumble + ", TIRED " + tired, x.steady(), CERTAIN / 10 * (10 - stumble * tired / 9));
            }
            x.drop(0);
            C.due("who holds none does not count", x.steady(), CERTAIN);
        }
        TrainBearers all = Checks.made(Checks.yards(1, 1, 1, 1), 9, 9, 9, 9, 9, 9, 9, 9);
        for (int g = 0; g < 8; g++) {
            all.hold(g, g / 2);
        }
        C.due("eight who are not TIRED", all.steady(), CERTAIN);
        C.inForce(all, "tires 9");
        all.lane(0, 1, 0);
        all.walk(1);
        C.due("eight by 9, STUMBLE 1", all.steady(), 430_467_210_000L);
        all.terms(1, 9);
        C.due("eight by 9, STUMBLE 9", all.steady(), 10_000L);
        all.terms(1, 10);
        C.due("eight by 9, STUMBLE 10", all.steady(), 0);
    }

    private static void compared() {
        C.under("COMPARED: what the DIPS BRING together now by a LAW in place of that in FORCE (NONE: none)");
        TrainBearers x = Checks.made(Checks.yards(5, 9), 2);
        C.asked("compare(NONE)", x, 14, () -> x.compare(NONE));
        C.asked("compare(0) without LAWS", x, NONE, () -> x.compare(0));
        x.hold(0, 0);
        Checks.law(x, "brings 99");
        Checks.law(x, "lifts 5;bars");
        C.asked("compare(0)", x, 198, () -> x.compare(0));
        C.asked("compare(1)", x, 9, () -> x.compare(1));
        C.asked("compare(2)", x, NONE, () -> x.compare(2));
        C.asked("compare(-2)", x, NONE, () -> x.compare(-2));
        C.asked("compare(least)", x, NONE, () -> x.compare(LEAST));
        C.asked("compare(most)", x, NONE, () -> x.compare(MOST));
        x.force(0);
        C.asked("compare(NONE) with one in FORCE", x, 12, () -> x.compare(NONE));
        C.asked("compare(1) with another in FORCE", x, 9, () -> x.compare(1));
        C.due("in FORCE all the same", x.count(14), 0);
        C.due("no YARDS", new TrainBearers().compare(NONE), 0);
    }
}
