/** Every call with numbers at, next to and far beyond every bound of the document, against the Model. */
public final class ArgumentsTest {
    private static final int LEAST = Integer.MIN_VALUE;
    private static final int MOST = Integer.MAX_VALUE;
    private static final int[] ALL = {LEAST, LEAST + 1, -1_000_000, -256, -3, -2, -1, 0, 1, 2, 3, 4, 5, 6, 7, 8, 9, 10, 11, 12, 16,
        17, 18, 19, 20, 21, 39, 40, 41, 59, 60, 61, 255, 256, 399, 400, 401, 998, 999, 1000, 999_999, 1_000_000, 1_000_001,
        MOST - 2, MOST - 1, MOST};
    private static final int[] FEW = {LEAST, -2, -1, 0, 1, 2, 5, 6, 7, 8, 9, 10, 255, MOST};
    private static final String[] OF_ONE = {"compare", "resting", "brought", "exchanged", "look", "count", "end", "walk", "drop",
        "force", "image", "back", "girl", "yard"};
    private static final String[] OF_TWO = {"at", "of", "stiles", "way", "folds", "drawn", "seen", "hold", "generations", "terms"};

    private static final Checks C = new Checks("ArgumentsTest");

    private ArgumentsTest() {
    }

    public static void main(String[] args) {
        for (int state = 0; state < 5; state++) {
            Pair pair = new Pair(C);
            bring(pair, state);
            sweep(pair);
            if (C.wrong() != 0) {
                System.out.println("state " + state + ":" + pair.said);
                break;
            }
        }
        C.finish();
    }

    /** An empty one, one of one, some of each, all full, all full at the last hour. */
    private static void bring(Pair pair, int state) {
        int[] sizes = {0, 1, 3, 8, 8};
        for (int i = 0; i < sizes[state]; i++) {
            pair.due("yard", 20 - i * 2);
            pair.due("girl", i + 2);
        }
        for (int a = 0; a < 6 && state > 0; a++) {
            for (int b = a + 1; b < 6; b += state == 2 ? 2 : 1) {
                pair.due("lane", a, b, (a * 5 + b * 3) % 10);
            }
        }
        if (state >= 2) {
            law(pair, "lifts strong+2-tired;tires stiles/2;brings dip*2 if yard<5");
            law(pair, "bars if girl=yard;brings 99 if mud>0");
            pair.due("force", 0);
            for (int i = 0; i < sizes[state]; i++) {
                pair.due("hold", i, i / 2);
            }
            pair.due("walk", 1);
            pair.due("seen", 0, 19);
            pair.due("image", 0);
            pair.due("generations", 12345, 60);
        }
        for (int i = 2; i < 6 && state >= 3; i++) {
            law(pair, "lifts " + i);
            pair.due("seen", i, i);
        }
        if (state == 4) {
            pair.due("terms", 0, 999);
            pair.due("terms", 1, 10);
        }
    }

    private static void law(Pair pair, String text) {
        for (int i = 0; i < text.length(); i += 20) {
            int[] five = new int[5];
            for (int k = 0; k < 20; k++) {
                five[k / 4] = five[k / 4] << 8 | (i + k < text.length() ? text.charAt(i + k) : ' ');
            }
            pair.due("feed", five);
        }
        pair.due("law");
    }

    private static void sweep(Pair pair) {
        for (int a : FEW) {
            for (int b : FEW) {
                for (int c : FEW) {
                    pair.due("asks", a, b, c);
                    // Only such as can't be: the lanes are asked of below.
                    if (a == b || c > 9 || c < -1) {
                        pair.due("lane", a, b, c);
                    }
                }
            }
        }
        for (String call : OF_TWO) {
            for (int a : ALL) {
                for (int b : ALL) {
                    pair.due(call, a, b);
                }
            }
            askOthers(pair);
        }
        for (String call : OF_ONE) {
            for (int a : ALL) {
                pair.due(call, a);
                pair.due("status");
            }
            askOthers(pair);
        }
        for (int a : FEW) {
            for (int b : FEW) {
                pair.due("lane", a, b, a);
                pair.due("stiles", a, b);
            }
        }
        askOthers(pair);
    }

    private static void askOthers(Pair pair) {
        for (String call : new String[] {"puddles", "fault", "stopped", "letGo", "far", "status", "steady"}) {
            pair.due(call);
        }
        for (int what = -1; what <= 18; what++) {
            pair.due("count", what);
        }
    }
}
