import java.nio.charset.StandardCharsets;
import java.util.function.IntSupplier;

/** What the tests share: answers compared with those that are due, and texts fed to the tape. */
final class Checks {
    private static final int[] REFUSALS = {-1, -2, -3, -5, -6};
    private static final int FIRST_REFUSAL_COUNT = 9;

    private final String name;
    private String sentence = "";
    private int wrong;
    private int asked;

    Checks(String name) {
        this.name = name;
    }

    /** The sentence of the document that the next answers are held against. */
    void under(String words) {
        sentence = "\"" + words + "\": ";
    }

    void due(String call, long got, long want) {
        asked++;
        if (got != want) {
            wrong++;
            System.out.println(name + ": " + sentence + call + " answered " + got + ", due is " + want);
        }
    }

    void dueTrue(String claim, boolean holds) {
        due(claim, holds ? 1 : 0, 1);
    }

    /** A call that status() minds is REFUSED: it is counted once, and all else is as it was. */
    void refused(String call, TrainBearers x, int by, IntSupplier asking) {
        String was = stateOf(x);
        int[] counts = refusalsOf(x);
        due(call, asking.getAsInt(), by);
        due(call + ", then status()", x.status(), by);
        for (int i = 0; i < REFUSALS.length; i++) {
            int more = REFUSALS[i] == by ? 1 : 0;
            due(call + ", refused by " + REFUSALS[i], refusalsOf(x)[i], counts[i] + more);
        }
        dueTrue(call + " leaves all as it was", stateOf(x).equals(was));
    }

    /** A call that status() minds is not REFUSED, even if what it answers is below 0. */
    void accepted(String call, TrainBearers x, int want, IntSupplier asking) {
        int[] counts = refusalsOf(x);
        due(call, asking.getAsInt(), want);
        due(call + ", then status()", x.status(), 0);
        for (int i = 0; i < REFUSALS.length; i++) {
            due(call + ", refused by " + REFUSALS[i], refusalsOf(x)[i], counts[i]);
        }
    }

    /** A call that only asks: status(), the counts of what was REFUSED and all else stay. */
    void asked(String call, TrainBearers x, long want, IntSupplier asking) {
        String was = stateOf(x);
        int[] counts = refusalsOf(x);
        int status = x.status();
        due(call, asking.getAsInt(), want);
        due(call + ", then status()", x.status(), status);
        for (int i = 0; i < REFUSALS.length; i++) {
            due(call + ", refused by " + REFUSALS[i], refusalsOf(x)[i], counts[i]);
        }
        dueTrue(call + " leaves all as it was", stateOf(x).equals(was));
    }

    private static int[] refusalsOf(TrainBearers x) {
        int[] counts = new int[REFUSALS.length];
        for (int i = 0; i < counts.length; i++) {
            counts[i] = x.count(FIRST_REFUSAL_COUNT + i);
        }
        return counts;
    }

    /**
     * All that can be seen of an object but the tape, the fault, where orders stopped and refusals.
     * That is more than a hundred calls: the class counts none, so that the 512th needs no care here.
     */
    static String stateOf(TrainBearers x) {
        StringBuilder all = new StringBuilder();
        for (int what = 0; what <= 17; what++) {
            if (what < 8 || what > 13) {
                all.append(x.count(what)).append(' ');
            }
        }
        for (int k = 0; k < 8; k++) {
            for (int what = 0; what < 5; what++) {
                all.append(x.at(k, what)).append(' ').append(x.of(k, what)).append(' ');
                all.append(x.drawn(k, what)).append(' ').append(x.stiles(k, what)).append(' ');
            }
            all.append(x.compare(k)).append(' ');
        }
        return all.append(x.puddles()).append(' ').append(x.letGo()).toString();
    }

    int wrong() {
        return wrong;
    }

    /** Ends the test as the tests under ../shared/tests end. */
    void finish() {
        System.out.println(name + ": " + asked + " answers, " + wrong + " not as due");
        if (wrong != 0) {
            System.exit(1);
        }
    }

    /** A train of these yards and girls. */
    static TrainBearers made(int[] heavy, int... strong) {
        TrainBearers x = new TrainBearers();
        for (int h : heavy) {
            x.yard(h);
        }
        for (int s : strong) {
            x.girl(s);
        }
        return x;
    }

    static int[] yards(int... heavy) {
        return heavy;
    }

    /** A law that must be fine is read and in force. */
    void inForce(TrainBearers x, String text) {
        int number = law(x, text);
        dueTrue("law '" + text + "' is read", number >= 0);
        x.force(number);
    }

    /** The tape gets these bytes behind what it has; false if there is no room. */
    static boolean feed(TrainBearers x, byte[] bytes) {
        int had = x.count(8);
        for (int i = 0; i < bytes.length; i += 20) {
            int[] fives = new int[5];
            for (int k = 0; k < 20; k++) {
                int b = i + k < bytes.length ? bytes[i + k] & 255 : 32;
                fives[k / 4] = fives[k / 4] << 8 | b;
            }
            if (x.feed(fives[0], fives[1], fives[2], fives[3], fives[4]) == TrainBearers.NONE) {
                x.end(had);
                return false;
            }
        }
        x.end(had + bytes.length);
        return true;
    }

    static boolean feed(TrainBearers x, String text) {
        return feed(x, text.getBytes(StandardCharsets.ISO_8859_1));
    }

    static int law(TrainBearers x, String text) {
        x.end(0);
        feed(x, text);
        return x.law();
    }

    static int orders(TrainBearers x, String text) {
        x.end(0);
        feed(x, text);
        return x.orders();
    }

    static int row(TrainBearers x, int... bytes) {
        x.end(0);
        byte[] row = new byte[bytes.length];
        for (int i = 0; i < bytes.length; i++) {
            row[i] = (byte) bytes[i];
        }
        feed(x, row);
        return x.row();
    }
}
