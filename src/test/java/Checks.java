import java.nio.charset.StandardCharsets;

/** What the tests share: answers compared with those that are due, and texts fed to the tape. */
final class Checks {
    private final String name;
    private int wrong;
    private int asked;

    Checks(String name) {
        this.name = name;
    }

    void due(String call, long got, long want) {
        asked++;
        if (got != want) {
            wrong++;
            System.out.println(name + ": " + call + " answered " + got + ", due is " + want);
        }
    }

    void dueTrue(String claim, boolean holds) {
        due(claim, holds ? 1 : 0, 1);
    }

    int wrong() {
        return wrong;
    }

    /** Ends the test as the tests under ../shared/tests end. */
    void finish() {
        System.out.println(name + ": " + asked + " answers, " + wrong + " not as due");
        if (wrong != 0) {
            System.exit(1);
        }
    }

    /** The tape gets these bytes behind what it has; false if there is no room. */
    static boolean feed(TrainBearers x, byte[] bytes) {
        int had = x.count(8);
        for (int i = 0; i < bytes.length; i += 20) {
            int[] fives = new int[5];
            for (int k = 0; k < 20; k++) {
                int b = i + k < bytes.length ? bytes[i + k] & 255 : 32;
                fives[k / 4] = fives[k / 4] << 8 | b;
            }
            if (x.feed(fives[0], fives[1], fives[2], fives[3], fives[4]) == TrainBearers.NONE) {
                x.end(had);
                return false;
            }
        }
        x.end(had + bytes.length);
        return true;
    }

    static boolean feed(TrainBearers x, String text) {
        return feed(x, text.getBytes(StandardCharsets.ISO_8859_1));
    }

    static int law(TrainBearers x, String text) {
        x.end(0);
        feed(x, text);
        return x.law();
    }

    static int orders(TrainBearers x, String text) {
        x.end(0);
        feed(x, text);
        return x.orders();
    }

    static int row(TrainBearers x, int... bytes) {
        x.end(0);
        byte[] row = new byte[bytes.length];
        for (int i = 0; i < bytes.length; i++) {
            row[i] = (byte) bytes[i];
        }
        feed(x, row);
        return x.row();
    }
}
