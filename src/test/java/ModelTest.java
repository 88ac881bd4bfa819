import java.nio.charset.StandardCharsets;
import java.util.List;
import java.util.Random;

/** Random runs, the same ones each time, with every answer compared with the Model's. */
public final class ModelTest {
    private static final int RUNS = 400;
    private static final int CALLS = 70;

    private final Checks checks;
    private final Random random;
    private final Pair pair;
    private final Model m;

    private ModelTest(Checks checks, long seed) {
        this.checks = checks;
        random = new Random(seed);
        pair = new Pair(checks);
        m = pair.m;
    }

    public static void main(String[] args) {
        Checks checks = new Checks("ModelTest");
        for (int run = 0; run < RUNS && checks.wrong() == 0; run++) {
            ModelTest test = new ModelTest(checks, run);
            test.run(run);
            if (checks.wrong() != 0) {
                System.out.println("run " + run + ":" + test.pair.said);
            }
        }
        checks.finish();
    }

    private void run(int run) {
        // Some runs stay empty for long, so that calls without yards and girls are met, too.
        if (run % 5 != 0) {
            for (int i = random.nextInt(run % 7 == 0 ? 9 : 4) + 1; i > 0; i--) {
                pair.due("yard", random.nextInt(20) + 1);
            }
            for (int i = random.nextInt(run % 11 == 0 ? 9 : 5) + 1; i > 0; i--) {
                pair.due("girl", random.nextInt(10));
            }
            for (int i = random.nextInt(10); i > 0; i--) {
                pair.due("lane", random.nextInt(6), random.nextInt(6), random.nextInt(10));
            }
        }
        for (int i = 0; i < CALLS && checks.wrong() == 0; i++) {
            call();
            if (i % 4 == 0 || i > CALLS - 3) {
                compareAll();
            }
        }
    }

    private int near(int least, int most) {
        // Mostly what can be, now and then just beyond it or far off.
        int kind = random.nextInt(40);
        return kind == 0 ? least - 1 : kind == 1 ? most + 1 : kind == 2 ? random.nextInt()
            : least + random.nextInt(most - least + 1);
    }

    private void call() {
        switch (random.nextInt(22)) {
            case 0 -> pair.due(random.nextInt(4) == 0 ? "yard" : "hold", near(0, Math.max(1, m.now.strong.size())), near(0, Math.max(1, m.now.heavy.size() - 1)));
            case 1 -> pair.due(random.nextInt(4) == 0 ? "girl" : "walk", near(0, 5));
            case 2, 3 -> pair.due("hold", near(0, 7), near(0, 7));
            case 4 -> pair.due("drop", near(0, 7));
            case 5, 6 -> pair.due("walk", near(0, 5));
            case 7 -> pair.due("rest");
            case 8 -> pair.due("undo");
            case 9 -> pair.due("lane", near(0, 5), near(0, 5), near(-1, 9));
            case 10 -> termsNowAndThen();
            case 11, 12 -> lawText();
            case 13, 14, 15 -> ordersText();
            case 16 -> pair.due("force", near(-1, Math.max(0, m.now.laws.size() - 1)));
            case 17 -> seenSomething();
            case 18 -> pair.due("generations", near(0, 1_000_000), near(1, 60));
            case 19 -> pair.due(random.nextBoolean() ? "image" : "back", near(0, 1));
            case 20 -> rowOfBytes();
            default -> pair.due(random.nextInt(3) == 0 ? "end" : "forget", near(0, 20));
        }
    }

    private void termsNowAndThen() {
        int what = near(0, 2);
        int value = what == 0 && random.nextBoolean() ? 999 - random.nextInt(25) : near(0, what == 1 ? 10 : 9);
        pair.due("terms", what, value);
    }

    private void seenSomething() {
        // What one girl's letting go would really show, so that some are left to be told apart.
        List<Integer> who = m.now.letGo();
        if (!who.isEmpty() && !m.now.heavy.isEmpty() && random.nextInt(4) != 0) {
            int y = random.nextInt(m.now.heavy.size());
            Model.World w = m.now.copy();
            w.holds.set(who.get(random.nextInt(who.size())), -1);
            pair.due("seen", y, w.dip(y));
        } else {
            pair.due("seen", near(0, 7), near(0, 40));
        }
    }

    private void rowOfBytes() {
        byte[] bytes = new byte[random.nextInt(25)];
        for (int i = 0; i < bytes.length; i++) {
            int kind = random.nextInt(12);
            bytes[i] = (byte) (kind == 0 ? 255 : kind == 1 ? random.nextInt(256) : i % 3 == 2 ? random.nextInt(11) : random.nextInt(7));
        }
        feedBoth(bytes);
        pair.due("row");
    }

    private void feedBoth(byte[] bytes) {
        pair.due("end", 0);
        for (int i = 0; i < bytes.length; i += 20) {
            int[] f = new int[5];
            for (int k = 0; k < 20; k++) {
                f[k / 4] = f[k / 4] << 8 | (i + k < bytes.length ? bytes[i + k] & 255 : 32);
            }
            pair.due("feed", f);
        }
        pair.due("end", bytes.length);
    }

    private void feedText(String text) {
        pair.said.append("\n  text: ").append(text);
        feedBoth(text.getBytes(StandardCharsets.ISO_8859_1));
    }

    private void lawText() {
        feedText(spoiled(new Texts(random, true).text()));
        pair.due("law");
        pair.due("fault");
        if (random.nextBoolean()) {
            pair.due("force", m.now.laws.size() - 1);
        }
    }

    private void ordersText() {
        feedText(spoiled(new Texts(random, false).text()));
        pair.due("orders");
        pair.due("fault");
        pair.due("stopped");
    }

    private String spoiled(String text) {
        StringBuilder t = new StringBuilder(text.length() > 400 ? text.substring(0, 400) : text);
        if (random.nextInt(4) == 0) {
            String signs = " ;()[]+-*/%<>=019azZ.\tif";
            for (int i = random.nextInt(2); i >= 0 && t.length() > 0; i--) {
                int at = random.nextInt(t.length());
                char sign = signs.charAt(random.nextInt(signs.length()));
                switch (random.nextInt(4)) {
                    case 0 -> t.deleteCharAt(at);
                    case 1 -> t.setCharAt(at, sign);
                    case 2 -> t.setLength(at);
                    default -> {
                        if (t.length() < 400) {
                            t.insert(at, sign);
                        }
                    }
                }
            }
        }
        return t.toString();
    }

    private void compareAll() {
        int yards = m.now.heavy.size();
        int girls = m.now.strong.size();
        for (int y = -1; y <= yards; y++) {
            for (int what = -1; what <= 5; what++) {
                pair.due("at", y, what);
            }
            for (int g = -1; g <= girls; g++) {
                pair.due("asks", g, y, random.nextInt(4) - 1);
            }
            pair.due("drawn", y, random.nextInt(5) - 1);
        }
        for (int g = -1; g <= girls; g++) {
            for (int what = -1; what <= 3; what++) {
                pair.due("of", g, what);
            }
            pair.due("drawn", g, random.nextInt(5) - 1);
        }
        for (int p = -1; p <= 6; p++) {
            pair.due("stiles", p, random.nextInt(8) - 1);
            for (int i = -2; i <= 6; i++) {
                pair.due("way", p, i);
            }
            pair.due("brought", p);
            pair.due("resting", p);
            pair.due("compare", p - 1);
        }
        for (int i = 0; i < 3; i++) {
            pair.due("folds", random.nextInt(64) - 1, near(-1, 8));
        }
        for (String call : new String[] {"puddles", "fault", "stopped", "letGo", "far", "status", "steady"}) {
            pair.due(call);
        }
        for (int what = -1; what <= 2; what++) {
            pair.due("exchanged", what);
            pair.due("look", what);
        }
        for (int what = -1; what <= 18; what++) {
            pair.due("count", what);
        }
        if (Math.pow(yards + 1, girls) <= 7000) {
            int[] row = m.now.borne();
            for (int what = -1; what <= yards + 2; what++) {
                pair.check("borne(" + what + ")", pair.x.borne(what), Pair.pick(row, what));
            }
        }
    }

    /** Texts that mostly can be read, some of them beyond the limits. */
    private static final class Texts {
        private final Random random;
        private final boolean law;

        Texts(Random random, boolean law) {
            this.random = random;
            this.law = law;
        }

        String text() {
            int kind = random.nextInt(30);
            if (kind == 0) {
                return (law ? "bars" : "rest if 1 = 2") + (law ? ";bars" : ";rest if 1 = 2").repeat(random.nextInt(4) + 9);
            }
            if (kind == 1) {
                return (law ? "lifts 1" : "rest times 2 if hour < 1") + (law ? "+tired" : "+1").repeat(random.nextInt(6) + 45);
            }
            if (kind == 2) {
                int n = random.nextInt(4) + 7;
                return law ? "brings " + "[".repeat(n) + "dip" + "]".repeat(n) : "rest if " + "(".repeat(n) + "1=1" + ")".repeat(n);
            }
            if (kind == 3) {
                return " ".repeat(random.nextInt(5));
            }
            StringBuilder text = new StringBuilder(clause());
            for (int i = random.nextInt(law ? 6 : 4); i > 0; i--) {
                text.append(random.nextBoolean() ? ";" : " ; ").append(clause());
            }
            return text.toString();
        }

        private String clause() {
            String head = law ? lawHead() : orderHead();
            return random.nextInt(law ? 2 : 3) == 0 ? head + " if " + test(random.nextInt(4)) : head;
        }

        private String lawHead() {
            String[] heads = {"lifts ", "tires ", "brings ", "lifts ", "brings "};
            return random.nextInt(8) == 0 ? "bars if " + test(1) : heads[random.nextInt(heads.length)] + sum(random.nextInt(3));
        }

        private String orderHead() {
            String times = random.nextInt(4) == 0 ? " times " + (random.nextInt(20) + 1) : "";
            return switch (random.nextInt(5)) {
                case 0 -> "hold " + small() + " at " + small() + times;
                case 1 -> "drop " + small() + times;
                case 2 -> "walk " + (random.nextInt(3) == 0 ? "1-place" : small()) + times;
                case 3 -> "rest" + times;
                default -> "rest if 1>2";
            };
        }

        private String small() {
            return random.nextInt(5) == 0 ? sum(1) : "" + random.nextInt(5);
        }

        private String test(int depth) {
            if (depth > 0) {
                switch (random.nextInt(5)) {
                    case 0:
                        return test(depth - 1) + " or " + test(depth - 1);
                    case 1:
                        return test(depth - 1) + " and " + test(depth - 1);
                    case 2:
                        return "not " + test(depth - 1);
                    case 3:
                        return "(" + test(depth - 1) + ")";
                    default:
                        break;
                }
            }
            return sum(random.nextInt(2)) + "<>=".charAt(random.nextInt(3)) + sum(random.nextInt(2));
        }

        private String sum(int depth) {
            if (depth > 0) {
                switch (random.nextInt(4)) {
                    case 0:
                        return sum(depth - 1) + " +-".charAt(random.nextInt(2) + 1) + sum(depth - 1);
                    case 1:
                        return sum(depth - 1) + "*/%".charAt(random.nextInt(3)) + sum(depth - 1);
                    case 2:
                        return "[" + sum(depth - 1) + "]";
                    default:
                        return "1000*1000*" + (random.nextInt(3) + 999) + "-" + sum(depth - 1);
                }
            }
            if (random.nextBoolean()) {
                return "" + (random.nextInt(6) == 0 ? random.nextInt(1001) : random.nextInt(6));
            }
            String[] words = law
                ? new String[] {"girl", "strong", "tired", "yard", "heavy", "mud", "dip", "stiles", "hour", "mood"}
                : new String[] {"hour", "done", "latest", "fate", "place", "dip " + random.nextInt(8), "tired" + random.nextInt(8)};
            return words[random.nextInt(words.length)];
        }
    }
}
