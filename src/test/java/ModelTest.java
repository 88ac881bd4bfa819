import java.nio.charset.StandardCharsets;
import java.util.List;
import java.util.Random;

/** Random runs, the same ones each time, with every answer compared with the Model's. */
public final class ModelTest {
    private static final int RUNS = 400;
    private static final int CALLS = 70;

    private final Checks checks;
    private final Random random;
    private final TrainBearers x = new TrainBearers();
    private final Model m = new Model();
    private final StringBuilder said = new StringBuilder();

    private ModelTest(Checks checks, long seed) {
        this.checks = checks;
        random = new Random(seed);
    }

    public static void main(String[] args) {
        Checks checks = new Checks("ModelTest");
        for (int run = 0; run < RUNS && checks.wrong() == 0; run++) {
            ModelTest test = new ModelTest(checks, run);
            test.run(run);
            if (checks.wrong() != 0) {
                System.out.println("run " + run + ":" + test.said);
            }
        }
        checks.finish();
    }

    private void run(int run) {
        // Some runs stay empty for long, so that calls without yards and girls are met, too.
        if (run % 5 != 0) {
            for (int i = random.nextInt(run % 7 == 0 ? 9 : 4) + 1; i > 0; i--) {
                due("yard", x, random.nextInt(20) + 1);
            }
            for (int i = random.nextInt(run % 11 == 0 ? 9 : 5) + 1; i > 0; i--) {
                due("girl", x, random.nextInt(10));
            }
            for (int i = random.nextInt(10); i > 0; i--) {
                due("lane", x, random.nextInt(6), random.nextInt(6), random.nextInt(10));
            }
        }
        for (int i = 0; i < CALLS && checks.wrong() == 0; i++) {
            call();
            if (i % 4 == 0 || i > CALLS - 3) {
                compareAll();
            }
        }
    }

    private int near(int least, int most) {
        // Mostly what can be, now and then just beyond it or far off.
        int kind = random.nextInt(40);
        return kind == 0 ? least - 1 : kind == 1 ? most + 1 : kind == 2 ? random.nextInt()
            : least + random.nextInt(most - least + 1);
    }

    private void call() {
        switch (random.nextInt(22)) {
            case 0 -> due(random.nextInt(4) == 0 ? "yard" : "hold", x, near(0, Math.max(1, m.now.strong.size())), near(0, Math.max(1, m.now.heavy.size() - 1)));
            case 1 -> due(random.nextInt(4) == 0 ? "girl" : "walk", x, near(0, 5));
            case 2, 3 -> due("hold", x, near(0, 7), near(0, 7));
            case 4 -> due("drop", x, near(0, 7));
            case 5, 6 -> due("walk", x, near(0, 5));
            case 7 -> due("rest", x);
            case 8 -> due("undo", x);
            case 9 -> due("lane", x, near(0, 5), near(0, 5), near(-1, 9));
            case 10 -> termsNowAndThen();
            case 11, 12 -> lawText();
            case 13, 14, 15 -> ordersText();
            case 16 -> due("force", x, near(-1, Math.max(0, m.now.laws.size() - 1)));
            case 17 -> seenSomething();
            case 18 -> due("generations", x, near(0, 1_000_000), near(1, 60));
            case 19 -> due(random.nextBoolean() ? "image" : "back", x, near(0, 1));
            case 20 -> rowOfBytes();
            default -> due(random.nextInt(3) == 0 ? "end" : "forget", x, near(0, 20));
        }
    }

    private void termsNowAndThen() {
        int what = near(0, 2);
        int value = what == 0 && random.nextBoolean() ? 999 - random.nextInt(25) : near(0, what == 1 ? 10 : 9);
        due("terms", x, what, value);
    }

    private void seenSomething() {
        // What one girl's letting go would really show, so that some are left to be told apart.
        List<Integer> who = m.now.letGo();
        if (!who.isEmpty() && !m.now.heavy.isEmpty() && random.nextInt(4) != 0) {
            int y = random.nextInt(m.now.heavy.size());
            Model.World w = m.now.copy();
            w.holds.set(who.get(random.nextInt(who.size())), -1);
            due("seen", x, y, w.dip(y));
        } else {
            due("seen", x, near(0, 7), near(0, 40));
        }
    }

    private void rowOfBytes() {
        byte[] bytes = new byte[random.nextInt(25)];
        for (int i = 0; i < bytes.length; i++) {
            int kind = random.nextInt(12);
            bytes[i] = (byte) (kind == 0 ? 255 : kind == 1 ? random.nextInt(256) : i % 3 == 2 ? random.nextInt(11) : random.nextInt(7));
        }
        feedBoth(bytes);
        due("row", x);
    }

    private void feedBoth(byte[] bytes) {
        due("end", x, 0);
        for (int i = 0; i < bytes.length; i += 20) {
            int[] f = new int[5];
            for (int k = 0; k < 20; k++) {
                f[k / 4] = f[k / 4] << 8 | (i + k < bytes.length ? bytes[i + k] & 255 : 32);
            }
            due("feed", x, f);
        }
        due("end", x, bytes.length);
    }

    private void feedText(String text) {
        said.append("\n  text: ").append(text);
        feedBoth(text.getBytes(StandardCharsets.ISO_8859_1));
    }

    private void lawText() {
        feedText(spoiled(new Texts(random, true).text()));
        due("law", x);
        due("fault", x);
        if (random.nextBoolean()) {
            due("force", x, m.now.laws.size() - 1);
        }
    }

    private void ordersText() {
        feedText(spoiled(new Texts(random, false).text()));
        due("orders", x);
        due("fault", x);
        due("stopped", x);
    }

    private String spoiled(String text) {
        StringBuilder t = new StringBuilder(text.length() > 400 ? text.substring(0, 400) : text);
        if (random.nextInt(4) == 0) {
            String signs = " ;()[]+-*/%<>=019azZ.\tif";
            for (int i = random.nextInt(2); i >= 0 && t.length() > 0; i--) {
                int at = random.nextInt(t.length());
                char sign = signs.charAt(random.nextInt(signs.length()));
                switch (random.nextInt(4)) {
                    case 0 -> t.deleteCharAt(at);
                    case 1 -> t.setCharAt(at, sign);
                    case 2 -> t.setLength(at);
                    default -> {
                        if (t.length() < 400) {
                            t.insert(at, sign);
                        }
                    }
                }
            }
        }
        return t.toString();
    }

    private void compareAll() {
        int yards = m.now.heavy.size();
        int girls = m.now.strong.size();
        for (int y = -1; y <= yards; y++) {
            for (int what = -1; what <= 5; what++) {
                due("at", x, y, what);
            }
            for (int g = -1; g <= girls; g++) {
                due("asks", x, g, y, random.nextInt(4) - 1);
            }
            due("drawn", x, y, random.nextInt(5) - 1);
        }
        for (int g = -1; g <= girls; g++) {
            for (int what = -1; what <= 3; what++) {
                due("of", x, g, what);
            }
            due("drawn", x, g, random.nextInt(5) - 1);
        }
        for (int p = -1; p <= 6; p++) {
            due("stiles", x, p, random.nextInt(8) - 1);
            for (int i = -2; i <= 6; i++) {
                due("way", x, p, i);
            }
            due("brought", x, p);
            due("resting", x, p);
            due("compare", x, p - 1);
        }
        for (int i = 0; i < 3; i++) {
            due("folds", x, random.nextInt(64) - 1, near(-1, 8));
        }
        for (String call : new String[] {"puddles", "fault", "stopped", "letGo", "far", "status", "steady"}) {
            due(call, x);
        }
        for (int what = -1; what <= 2; what++) {
            due("exchanged", x, what);
            due("look", x, what);
        }
        for (int what = -1; what <= 18; what++) {
            due("count", x, what);
        }
        if (Math.pow(yards + 1, girls) <= 7000) {
            int[] row = m.now.borne();
            for (int what = -1; what <= yards + 2; what++) {
                check("borne(" + what + ")", x.borne(what), what < 0 || what >= row.length ? -1 : row[what]);
            }
        }
    }

    private void check(String call, long got, long want) {
        if (checks.wrong() == 0) {
            checks.due(call, got, want);
        }
    }

    private static int pick(int[] row, int index) {
        return row == null || index < 0 || index >= row.length ? -1 : row[index];
    }

    private static int bits(List<Integer> who) {
        return who.stream().mapToInt(g -> 1 << g).sum();
    }

    private void due(String call, TrainBearers x, int... a) {
        if (checks.wrong() != 0) {
            return;
        }
        StringBuilder whole = new StringBuilder(call).append('(');
        for (int i = 0; i < a.length; i++) {
            whole.append(i == 0 ? "" : ", ").append(a[i]);
        }
        whole.append(')');
        String name = whole.toString();
        if (!"at of asks drawn stiles way brought resting compare folds count look exchanged".contains(call)) {
            said.append(' ').append(name);
        }
        switch (call) {
            case "yard" -> check(name, x.yard(a[0]), m.yard(a[0]));
            case "girl" -> check(name, x.girl(a[0]), m.girl(a[0]));
            case "at" -> check(name, x.at(a[0], a[1]), m.at(a[0], a[1]));
            case "of" -> check(name, x.of(a[0], a[1]), m.of(a[0], a[1]));
            case "asks" -> check(name, x.asks(a[0], a[1], a[2]), m.asks(a[0], a[1], a[2]));
            case "lane" -> check(name, x.lane(a[0], a[1], a[2]), m.lane(a[0], a[1], a[2]));
            case "stiles" -> check(name, x.stiles(a[0], a[1]), m.now.lane(a[0], a[1]));
            case "terms" -> check(name, x.terms(a[0], a[1]), m.terms(a[0], a[1]));
            case "feed" -> check(name, x.feed(a[0], a[1], a[2], a[3], a[4]), m.feed(a));
            case "end" -> check(name, x.end(a[0]), m.end(a[0]));
            case "row" -> check(name, x.row(), m.row());
            case "puddles" -> check(name, x.puddles(), m.puddles);
            case "law" -> check(name, x.law(), m.law());
            case "orders" -> check(name, x.orders(), m.orders());
            case "fault" -> check(name, x.fault(), m.fault);
            case "stopped" -> check(name, x.stopped(), m.stopped);
            case "force" -> check(name, x.force(a[0]), m.force(a[0]));
            case "hold" -> check(name, x.hold(a[0], a[1]), m.answer(m.deed(0, a[0], a[1])));
            case "drop" -> check(name, x.drop(a[0]), m.answer(m.deed(1, a[0], 0)));
            case "walk" -> check(name, x.walk(a[0]), m.answer(m.deed(2, a[0], 0)));
            case "rest" -> check(name, x.rest(), m.answer(m.deed(3, 0, 0)));
            case "undo" -> check(name, x.undo(), m.undo());
            case "seen" -> check(name, x.seen(a[0], a[1]), m.seen(a[0], a[1]));
            case "forget" -> {
                check(name, x.forget(), m.now.seen.size());
                m.now.seen.clear();
            }
            case "generations" -> check(name, x.generations(a[0], a[1]), m.generations(a[0], a[1]));
            case "drawn" -> check(name, x.drawn(a[0], a[1]), m.drawn(a[0], a[1]));
            case "image" -> check(name, x.image(a[0]), m.image(a[0]));
            case "back" -> check(name, x.back(a[0]), m.back(a[0]));
            case "count" -> check(name, x.count(a[0]), m.count(a[0]));
            case "status" -> check(name, x.status(), m.status);
            default -> dueOnPaper(call, name, a);
        }
    }

    private void dueOnPaper(String call, String name, int[] a) {
        switch (call) {
            case "exchanged" -> check(name, x.exchanged(a[0]), pick(m.now.exchanged(), a[0]));
            case "look" -> check(name, x.look(a[0]), pick(m.now.look(), a[0]));
            case "letGo" -> check(name, x.letGo(), bits(m.now.letGo()));
            case "way" -> check(name, x.way(a[0], a[1]), a[1] < -1 ? -1 : pick(m.now.way(a[0]), a[1] == -1 ? 0 : a[1] + 2));
            case "brought" -> check(name, x.brought(a[0]), m.now.brought(a[0]));
            case "folds" -> check(name, x.folds(a[0], a[1]), a[0] < 1 || a[0] > 60 || a[1] < -1 ? -1 : pick(m.now.folds(a[0]), a[1] + 1));
            case "resting" -> check(name, x.resting(a[0]), m.now.resting(a[0]));
            case "far" -> check(name, x.far(), m.now.far());
            case "steady" -> check(name, x.steady(), m.now.steady());
            case "compare" -> check(name, x.compare(a[0]), m.compare(a[0]));
            default -> throw new IllegalArgumentException(call);
        }
    }

    /** Texts that mostly can be read, some of them beyond the limits. */
    private static final class Texts {
        private final Random random;
        private final boolean law;

        Texts(Random random, boolean law) {
            this.random = random;
            this.law = law;
        }

        String text() {
            int kind = random.nextInt(30);
            if (kind == 0) {
                return (law ? "bars" : "rest if 1 = 2") + (law ? ";bars" : ";rest if 1 = 2").repeat(random.nextInt(4) + 9);
            }
            if (kind == 1) {
                return (law ? "lifts 1" : "rest times 2 if hour < 1") + (law ? "+tired" : "+1").repeat(random.nextInt(6) + 45);
            }
            if (kind == 2) {
                int n = random.nextInt(4) + 7;
                return law ? "brings " + "[".repeat(n) + "dip" + "]".repeat(n) : "rest if " + "(".repeat(n) + "1=1" + ")".repeat(n);
            }
            if (kind == 3) {
                return " ".repeat(random.nextInt(5));
            }
            StringBuilder text = new StringBuilder(clause());
            for (int i = random.nextInt(law ? 6 : 4); i > 0; i--) {
                text.append(random.nextBoolean() ? ";" : " ; ").append(clause());
            }
            return text.toString();
        }

        private String clause() {
            String head = law ? lawHead() : orderHead();
            return random.nextInt(law ? 2 : 3) == 0 ? head + " if " + test(random.nextInt(4)) : head;
        }

        private String lawHead() {
            String[] heads = {"lifts ", "tires ", "brings ", "lifts ", "brings "};
            return random.nextInt(8) == 0 ? "bars if " + test(1) : heads[random.nextInt(heads.length)] + sum(random.nextInt(3));
        }

        private String orderHead() {
            String times = random.nextInt(4) == 0 ? " times " + (random.nextInt(20) + 1) : "";
            return switch (random.nextInt(5)) {
                case 0 -> "hold " + small() + " at " + small() + times;
                case 1 -> "drop " + small() + times;
                case 2 -> "walk " + (random.nextInt(3) == 0 ? "1-place" : small()) + times;
                case 3 -> "rest" + times;
                default -> "rest if 1>2";
            };
        }

        private String small() {
            return random.nextInt(5) == 0 ? sum(1) : "" + random.nextInt(5);
        }

        private String test(int depth) {
            if (depth > 0) {
                switch (random.nextInt(5)) {
                    case 0:
                        return test(depth - 1) + " or " + test(depth - 1);
                    case 1:
                        return test(depth - 1) + " and " + test(depth - 1);
                    case 2:
                        return "not " + test(depth - 1);
                    case 3:
                        return "(" + test(depth - 1) + ")";
                    default:
                        break;
                }
            }
            return sum(random.nextInt(2)) + "<>=".charAt(random.nextInt(3)) + sum(random.nextInt(2));
        }

        private String sum(int depth) {
            if (depth > 0) {
                switch (random.nextInt(4)) {
                    case 0:
                        return sum(depth - 1) + " +-".charAt(random.nextInt(2) + 1) + sum(depth - 1);
                    case 1:
                        return sum(depth - 1) + "*/%".charAt(random.nextInt(3)) + sum(depth - 1);
                    case 2:
                        return "[" + sum(depth - 1) + "]";
                    default:
                        return "1000*1000*" + (random.nextInt(3) + 999) + "-" + sum(depth - 1);
                }
            }
            if (random.nextBoolean()) {
                return "" + (random.nextInt(6) == 0 ? random.nextInt(1001) : random.nextInt(6));
            }
            String[] words = law
                ? new String[] {"girl", "strong", "tired", "yard", "heavy", "mud", "dip", "stiles", "hour", "mood"}
                : new String[] {"hour", "done", "latest", "fate", "place", "dip " + random.nextInt(8), "tired" + random.nextInt(8)};
            return words[random.nextInt(words.length)];
        }
    }
}
