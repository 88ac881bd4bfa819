import java.util.ArrayList;
import java.util.List;

/** Terms IV of the document, sentence by sentence: each bound that it names, and one step beyond it. */
public final class TermsFourTest {
    private static final int NONE = TrainBearers.NONE;
    private static final int LEAST = Integer.MIN_VALUE;
    private static final int MOST = Integer.MAX_VALUE;
    private static final Checks C = new Checks("TermsFourTest");

    private TermsFourTest() {
    }

    public static void main(String[] args) {
        seeds();
        howMany();
        onPaper();
        draws();
        drawsOfGirlsAndYards();
        deedsByDraws();
        eachIfItCanBe();
        endsAtHour999();
        rowOfThrees();
        rowStiles();
        rowWhole();
        rowWithin();
        images();
        imagesKeepAllBut();
        backLeavesNothingToUndo();
        imagesStay();
        C.finish();
    }

    private static TrainBearers two() {
        TrainBearers x = Checks.made(Checks.yards(9, 7), 5, 3);
        x.lane(0, 5, 3);
        return x;
    }

    private static void seeds() {
        C.under("s is the SEED (0 .. 1,000,000)");
        TrainBearers x = two();
        for (int seed : new int[] {0, 1, 999_999, 1_000_000}) {
            C.due("generations(" + seed + ", 1)", x.generations(seed, 1), 0);
            C.due("status()", x.status(), 0);
        }
        for (int seed : new int[] {-1, 1_000_001, 1_000_003, LEAST, MOST}) {
            C.refused("generations(" + seed + ", 1)", x, -1, () -> x.generations(seed, 1));
        }
    }

    private static void howMany() {
        C.under("n 1 .. 60");
        TrainBearers x = two();
        for (int n : new int[] {1, 2, 59, 60}) {
            x.generations(0, n);
            C.due("status() of n " + n, x.status(), 0);
        }
        for (int n : new int[] {0, 61, -1, LEAST, MOST}) {
            C.refused("generations(0, " + n + ")", x, -1, () -> x.generations(0, n));
        }
        C.under("-3 there are no GIRLS, no YARDS");
        TrainBearers girls = Checks.made(Checks.yards(), 5);
        C.refused("no YARDS", girls, -3, () -> girls.generations(0, 1));
        TrainBearers yards = Checks.made(Checks.yards(5));
        C.refused("no GIRLS", yards, -3, () -> yards.generations(0, 1));
        TrainBearers none = new TrainBearers();
        C.refused("neither", none, -3, () -> none.generations(0, 1));
        TrainBearers both = Checks.made(Checks.yards(5), 5);
        C.accepted("one of both", both, 0, () -> both.generations(0, 1));
    }

    private static void onPaper() {
        C.under("GENERATIONS .. on paper");
        TrainBearers x = two();
        x.hold(0, 0);
        x.rest();
        x.generations(0, 1);
        String was = stateWithoutDrawn(x);
        for (int seed = 0; seed < 20; seed++) {
            x.generations(seed, 60);
        }
        C.dueTrue("all is as it was", stateWithoutDrawn(x).equals(was));
        C.due("what can be undone", x.count(7), 2);
    }

    private static String stateWithoutDrawn(TrainBearers x) {
        StringBuilder all = new StringBuilder();
        for (int what = 0; what < 18; what++) {
            all.append(x.count(what)).append(' ');
        }
        for (int k = 0; k < 2; k++) {
            all.append(x.at(k, 1)).append(' ').append(x.at(k, 2)).append(' ').append(x.of(k, 1)).append(' ').append(x.of(k, 2)).append(' ');
        }
        return all.toString();
    }

    /** The four draws of each time, worked out by the words of the document alone. */
    private static List<int[]> drawn(int seed, int n, int girls, int yards) {
        List<int[]> all = new ArrayList<>();
        long s = seed;
        for (int i = 0; i < n; i++) {
            int[] of = {girls, yards, 6, 4};
            int[] four = new int[4];
            for (int k = 0; k < 4; k++) {
                s = (s * 1103 + 12345) % 1_000_003;
                four[k] = (int) (s % of[k]);
            }
            all.add(four);
        }
        return all;
    }

    private static void draws() {
        C.under("a DRAW of m: s becomes (s times 1103 and 12345) modulo 1,000,003, it is s modulo m");
        // From 1,000,000: 898,411 at the end of the first time, then she holds, it walks, she drops.
        int[][] first = {{0, 0, 4, 3}, {0, 0, 5, 0}, {1, 0, 5, 2}, {0, 0, 5, 1}};
        List<int[]> worked = drawn(1_000_000, 4, 2, 2);
        for (int i = 0; i < first.length; i++) {
            for (int k = 0; k < 4; k++) {
                C.due("draw " + k + " of time " + i, worked.get(i)[k], first[i][k]);
            }
        }
        TrainBearers x = two();
        C.due("generations(1000000, 1)", x.generations(1_000_000, 1), 0);
        C.due("nothing yet", x.drawn(0, 1), NONE);
        C.due("generations(1000000, 2)", x.generations(1_000_000, 2), 0);
        C.due("she HOLDS", x.drawn(0, 1), 0);
        // 9 less 5, and 7.
        C.due("generations(1000000, 3)", x.generations(1_000_000, 3), 11);
        C.due("TIRED by 4 less a REST", x.drawn(0, 0), 3);
        C.due("MUD", x.drawn(0, 2), 1);
        C.due("MUD of the other one", x.drawn(1, 2), 1);
        C.due("generations(1000000, 4)", x.generations(1_000_000, 4), 11);
        C.due("she DROPS", x.drawn(0, 1), NONE);
        C.due("one less TIRED", x.drawn(0, 0), 2);
    }

    private static void drawsOfGirlsAndYards() {
        C.under("DRAWS of GIRLS, of YARDS, of 6, of 4");
        for (int girls = 1; girls <= 8; girls++) {
            for (int yards = 1; yards <= 8; yards += girls == 8 ? 1 : 3) {
                for (int seed = 0; seed < 40; seed++) {
                    TrainBearers x = new TrainBearers();
                    for (int i = 0; i < 8; i++) {
                        if (i < yards) {
                            x.yard(20);
                        }
                        if (i < girls) {
                            x.girl(0);
                        }
                    }
                    x.generations(seed, 1);
                    int[] four = drawn(seed, 1, girls, yards).get(0);
                    for (int g = 0; g < girls; g++) {
                        int want = four[3] == 0 && g == four[0] ? four[1] : NONE;
                        C.due("drawn(" + g + ", 1) of SEED " + seed + ", " + girls + " by " + yards, x.drawn(g, 1), want);
                    }
                }
            }
        }
    }

    private static void deedsByDraws() {
        C.under("at 0 she HOLDS that YARD, at 1 she DROPS hers, at 2 the train WALKS to that PLACE, at 3 nothing; then there is a REST");
        for (int seed = 0; seed < 60; seed++) {
            TrainBearers x = Checks.made(Checks.yards(9, 7), 5, 3);
            for (int p = 1; p < 6; p++) {
                x.lane(0, p, p);
            }
            x.hold(0, 0);
            x.hold(1, 1);
            x.walk(3);
            x.lane(0, 3, NONE);
            x.lane(3, 5, 1);
            int[] four = drawn(seed, 1, 2, 2).get(0);
            int told = x.generations(seed, 1);
            boolean walks = four[3] == 2 && four[2] == 5;
            // Tired by 4: 9 and 1 less 1 and 7 and 1 dip; by two more ahead of the rest, if it walks.
            C.due("FATE of SEED " + seed, told, walks ? 10 - 1 + 8 : 0);
            C.due("TIRED of SEED " + seed, x.drawn(0, 0), walks ? 5 : 3);
            C.due("MUD of SEED " + seed, x.drawn(1, 2), walks ? 2 : 1);
            for (int g = 0; g < 2; g++) {
                int want = four[0] != g ? g : four[3] == 0 ? four[1] : four[3] == 1 ? NONE : g;
                C.due("the YARD of GIRL " + g + ", SEED " + seed, x.drawn(g, 1), want);
            }
        }
    }

    private static void eachIfItCanBe() {
        C.under("GENERATIONS: each if it can be");
        TrainBearers x = Checks.made(Checks.yards(9), 5);
        C.inForce(x, "bars");
        for (int seed = 0; seed < 30; seed++) {
            C.due("BARRED, without LANES, SEED " + seed, x.generations(seed, 60), 0);
            C.due("she holds none", x.drawn(0, 1), NONE);
            C.due("no MUD", x.drawn(0, 2), 0);
        }
        x.force(NONE);
        x.hold(0, 0);
        C.inForce(x, "bars");
        boolean dropped = false;
        for (int seed = 0; seed < 30; seed++) {
            x.generations(seed, 60);
            dropped |= x.drawn(0, 1) == NONE;
        }
        C.dueTrue("BARRED she may DROP it", dropped);
    }

    private static void endsAtHour999() {
        C.under("Each time (at HOUR 999 it ends)");
        for (int seed = 0; seed < 30; seed++) {
            for (int left = 0; left <= 5; left++) {
                TrainBearers x = walkable(999 - left);
                TrainBearers early = walkable(0);
                int told = x.generations(seed, left + 1);
                int want = left == 0 ? 0 : early.generations(seed, left);
                C.due("FATE of SEED " + seed + " with " + left + " HOURS left", told, want);
                for (int k = 0; k < 2; k++) {
                    C.due("TIRED", x.drawn(k, 0), left == 0 ? 4 : early.drawn(k, 0));
                    C.due("YARD", x.drawn(k, 1), left == 0 ? k : early.drawn(k, 1));
                    C.due("MUD", x.drawn(k, 2), left == 0 ? 1 : early.drawn(k, 2));
                }
                C.due("as many as there are HOURS", x.generations(seed, Math.max(1, left)), want);
            }
        }
        TrainBearers x = walkable(939);
        TrainBearers y = walkable(940);
        TrainBearers z = walkable(0);
        for (int seed = 0; seed < 30; seed++) {
            C.due("sixty up to 999", x.generations(seed, 60), z.generations(seed, 60));
            C.due("fifty-nine up to 999", y.generations(seed, 60), z.generations(seed, 59));
        }
    }

    /** Girls who hold a yard each, tired by 4, with lanes from each place to each, at that hour. */
    private static TrainBearers walkable(int hour) {
        TrainBearers x = Checks.made(Checks.yards(9, 7), 5, 3);
        for (int a = 0; a < 6; a++) {
            for (int b = a + 1; b < 6; b++) {
                x.lane(a, b, 3);
            }
        }
        x.hold(0, 0);
        x.hold(1, 1);
        x.walk(1);
        x.terms(0, hour);
        return x;
    }

    private static void rowOfThrees() {
        C.under("A ROW: the TAPE's bytes by threes .. one within which the TAPE ends is a PUDDLE");
        int[] bytes = {0, 1, 5, 1, 2, 6, 2, 3, 7};
        for (int n = 1; n <= 9; n++) {
            TrainBearers x = new TrainBearers();
            int[] some = java.util.Arrays.copyOf(bytes, n);
            C.accepted("row() of " + n, x, n / 3, () -> Checks.row(x, some));
            C.due("puddles() of " + n, x.puddles(), n % 3 == 0 ? 0 : 1);
            C.due("the TAPE of " + n, x.count(8), 0);
            for (int lane = 0; lane < 3; lane++) {
                C.due("LANE " + lane + " of " + n, x.stiles(lane, lane + 1), n >= 3 * lane + 3 ? 5 + lane : NONE);
            }
        }
        TrainBearers x = new TrainBearers();
        C.refused("row() of none", x, -6, x::row);
        C.due("puddles() ahead of any", x.puddles(), 0);
    }

    private static void rowStiles() {
        C.under("A ROW: STILES (9 at most; 255: none): that LANE; one that can't be is a PUDDLE: nothing");
        for (int stiles = 0; stiles < 256; stiles++) {
            TrainBearers x = new TrainBearers();
            x.lane(2, 3, 4);
            boolean can = stiles <= 9 || stiles == 255;
            C.due("row() of STILES " + stiles, Checks.row(x, 3, 2, stiles), can ? 1 : 0);
            C.due("puddles()", x.puddles(), can ? 0 : 1);
            C.due("stiles(2, 3)", x.stiles(2, 3), stiles == 255 ? NONE : can ? stiles : 4);
            C.due("status()", x.status(), 0);
        }
        for (int place = 0; place < 256; place++) {
            TrainBearers x = new TrainBearers();
            boolean can = place < 6 && place != 2;
            C.due("row() of PLACE " + place, Checks.row(x, 2, place, 1), can ? 1 : 0);
            C.due("puddles()", x.puddles(), can ? 0 : 1);
            C.due("row() of PLACE " + place + " first", Checks.row(x, place, 2, 1), can ? 1 : 0);
            C.due("puddles() of it", x.puddles(), can ? 0 : 1);
            C.due("stiles()", x.stiles(2, place), can ? 1 : NONE);
        }
    }

    private static void rowWhole() {
        C.under("A ROW: of a TAPE of 400 bytes");
        for (int n = 398; n <= 400; n++) {
            TrainBearers x = new TrainBearers();
            int[] bytes = new int[n];
            for (int i = 0; i < n; i++) {
                bytes[i] = i % 3 == 0 ? 4 : i % 3 == 1 ? 5 : i / 3 % 10;
            }
            int whole = n / 3;
            C.due("row() of " + n, Checks.row(x, bytes), whole);
            C.due("puddles() of " + n, x.puddles(), n % 3 == 0 ? 0 : 1);
            C.due("stiles(4, 5): the latest", x.stiles(4, 5), (whole - 1) % 10);
        }
    }

    private static void rowWithin() {
        C.under("how many PUDDLES the latest row() had that was not REFUSED");
        TrainBearers x = new TrainBearers();
        C.due("one that can't be between two that can", Checks.row(x, 0, 1, 3, 1, 1, 3, 1, 2, 4), 2);
        C.due("puddles()", x.puddles(), 1);
        C.due("stiles(0, 1)", x.stiles(0, 1), 3);
        C.due("stiles(1, 2)", x.stiles(1, 2), 4);
        C.refused("row() of none", x, -6, x::row);
        C.due("puddles() as it was", x.puddles(), 1);
        C.due("puddles alone", Checks.row(x, 9, 9, 9, 8), 0);
        C.due("puddles() of them", x.puddles(), 2);
        C.due("LANES alone", Checks.row(x, 0, 1, 255), 1);
        C.due("puddles() of none", x.puddles(), 0);
        C.due("stiles(0, 1) then", x.stiles(0, 1), NONE);
        C.due("none where none was is told, too", Checks.row(x, 0, 1, 255), 1);
    }

    private static void images() {
        C.under("IMAGES 0, 1");
        TrainBearers x = new TrainBearers();
        for (int k : new int[] {2, -1, LEAST, MOST}) {
            C.refused("image(" + k + ")", x, -1, () -> x.image(k));
            C.refused("back(" + k + ")", x, -1, () -> x.back(k));
        }
        C.refused("back(0) of none", x, -2, () -> x.back(0));
        C.refused("back(1) of none", x, -2, () -> x.back(1));
        C.accepted("image(1)", x, 0, () -> x.image(1));
        C.refused("back(0) of none with the other one kept", x, -2, () -> x.back(0));
        C.accepted("back(1)", x, 0, () -> x.back(1));
        C.accepted("image(0)", x, 0, () -> x.image(0));
        C.accepted("back(0)", x, 0, () -> x.back(0));
    }

    private static void change(TrainBearers x) {
        x.yard(13);
        x.girl(2);
        x.lane(0, 1, 9);
        x.lane(2, 4, 6);
        x.terms(0, 77);
        x.terms(1, 7);
        x.terms(2, 3);
        x.seen(0, 3);
        Checks.law(x, "lifts 9;tires 3");
        x.force(x.count(6) - 1);
        x.hold(0, 1);
        x.walk(1 - x.count(4));
    }

    private static void imagesKeepAllBut() {
        C.under("IMAGES 0, 1 keep all but the TAPE, FAULT, PUDDLES, where ORDERS stopped, what can be undone, the latest GENERATIONS");
        TrainBearers x = Checks.made(Checks.yards(9, 7), 5, 3);
        x.lane(0, 1, 2);
        x.seen(1, 7);
        Checks.law(x, "lifts 2;brings 5");
        x.force(0);
        x.hold(1, 0);
        x.walk(1);
        x.image(0);
        x.generations(3, 60);
        Checks.row(x, 1, 1, 1);
        String was = Checks.stateOf(x);
        int undone = x.count(7);
        x.generations(3, 60);
        change(x);
        Checks.law(x, "bars bars");
        C.due("orders that stop", Checks.orders(x, "rest;drop 7"), -3);
        C.due("a law with a fault", Checks.law(x, "bars bars"), -6);
        Checks.feed(x, "four");
        int[] refused = new int[5];
        for (int i = 0; i < 5; i++) {
            refused[i] = x.count(9 + i);
        }
        C.accepted("back(0)", x, 0, () -> x.back(0));
        C.due("the TAPE", x.count(8), 4);
        C.due("FAULT", x.fault(), 5);
        C.due("stopped()", x.stopped(), 1);
        C.due("PUDDLES", x.puddles(), 1);
        C.due("what can be undone", x.count(7), 0);
        for (int i = 0; i < 5; i++) {
            C.due("count(" + (9 + i) + ")", x.count(9 + i), refused[i]);
        }
        // All else as it was: what could be undone is the eighth that the state tells.
        C.dueTrue("all else is as it was", Checks.stateOf(x).equals(replaceUndone(was, undone)));
    }

    private static String replaceUndone(String state, int undone) {
        String[] words = state.split(" ");
        C.due("the eighth is what can be undone", Integer.parseInt(words[7]), undone);
        words[7] = "0";
        return String.join(" ", words);
    }

    private static void backLeavesNothingToUndo() {
        C.under("what can be undone (nothing, behind back())");
        TrainBearers x = new TrainBearers();
        x.rest();
        x.rest();
        x.image(0);
        C.due("image() leaves it", x.count(7), 2);
        C.refused("back(1), REFUSED, leaves it", x, -2, () -> x.back(1));
        C.refused("back(2), REFUSED, leaves it", x, -1, () -> x.back(2));
        C.due("two can be undone", x.count(7), 2);
        x.back(0);
        C.due("count(7)", x.count(7), 0);
        C.refused("undo()", x, -3, x::undo);
        C.due("the HOUR stays", x.count(15), 2);
        x.rest();
        C.due("a REST behind back()", x.undo(), 3);
        C.due("the HOUR of the IMAGE", x.count(15), 2);
        C.refused("no further", x, -3, x::undo);
    }

    private static void imagesStay() {
        C.under("BACK to one all that it keeps is as it was then (IMAGES stay)");
        TrainBearers x = Checks.made(Checks.yards(9, 7), 5, 3);
        x.lane(0, 1, 2);
        x.image(0);
        String zero = Checks.stateOf(x);
        change(x);
        x.image(1);
        x.back(1);
        String one = Checks.stateOf(x);
        for (int turn = 0; turn < 3; turn++) {
            change(x);
            C.due("back(0)", x.back(0), 0);
            C.dueTrue("as IMAGE 0, turn " + turn, Checks.stateOf(x).equals(zero));
            change(x);
            C.due("back(1)", x.back(1), 0);
            C.dueTrue("as IMAGE 1, turn " + turn, Checks.stateOf(x).equals(one));
        }
        x.image(0);
        C.due("another one in its place", x.back(0), 0);
        C.dueTrue("as IMAGE 1 was", Checks.stateOf(x).equals(one));
    }
}
