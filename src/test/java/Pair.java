import java.util.List;

/** The class and the Model with the same calls: every answer compared. */
final class Pair {
    final TrainBearers x = new TrainBearers();
    final Model m = new Model();
    /** The calls that may have changed something, for who has to find out what went wrong. */
    final StringBuilder said = new StringBuilder();
    private final Checks checks;

    Pair(Checks checks) {
        this.checks = checks;
    }

    void check(String call, long got, long want) {
        if (checks.wrong() == 0) {
            checks.due(call, got, want);
        }
    }

    static int pick(int[] row, int index) {
        return row == null || index < 0 || index >= row.length ? -1 : row[index];
    }

    private static int bits(List<Integer> who) {
        return who.stream().mapToInt(g -> 1 << g).sum();
    }

    void due(String call, int... a) {
        if (checks.wrong() != 0) {
            return;
        }
        StringBuilder whole = new StringBuilder(call).append('(');
        for (int i = 0; i < a.length; i++) {
            whole.append(i == 0 ? "" : ", ").append(a[i]);
        }
        whole.append(')');
        String name = whole.toString();
        if (!"at of asks drawn stiles way brought resting compare folds count look exchanged".contains(call)) {
            said.append(' ').append(name);
        }
        switch (call) {
            case "yard" -> check(name, x.yard(a[0]), m.yard(a[0]));
            case "girl" -> check(name, x.girl(a[0]), m.girl(a[0]));
            case "at" -> check(name, x.at(a[0], a[1]), m.at(a[0], a[1]));
            case "of" -> check(name, x.of(a[0], a[1]), m.of(a[0], a[1]));
            case "asks" -> check(name, x.asks(a[0], a[1], a[2]), m.asks(a[0], a[1], a[2]));
            case "lane" -> check(name, x.lane(a[0], a[1], a[2]), m.lane(a[0], a[1], a[2]));
            case "stiles" -> check(name, x.stiles(a[0], a[1]), m.now.lane(a[0], a[1]));
            case "terms" -> check(name, x.terms(a[0], a[1]), m.terms(a[0], a[1]));
            case "feed" -> check(name, x.feed(a[0], a[1], a[2], a[3], a[4]), m.feed(a));
            case "end" -> check(name, x.end(a[0]), m.end(a[0]));
            case "row" -> check(name, x.row(), m.row());
            case "puddles" -> check(name, x.puddles(), m.puddles);
            case "law" -> check(name, x.law(), m.law());
            case "orders" -> check(name, x.orders(), m.orders());
            case "fault" -> check(name, x.fault(), m.fault);
            case "stopped" -> check(name, x.stopped(), m.stopped);
            case "force" -> check(name, x.force(a[0]), m.force(a[0]));
            case "hold" -> check(name, x.hold(a[0], a[1]), m.answer(m.deed(0, a[0], a[1])));
            case "drop" -> check(name, x.drop(a[0]), m.answer(m.deed(1, a[0], 0)));
            case "walk" -> check(name, x.walk(a[0]), m.answer(m.deed(2, a[0], 0)));
            case "rest" -> check(name, x.rest(), m.answer(m.deed(3, 0, 0)));
            case "undo" -> check(name, x.undo(), m.undo());
            case "seen" -> check(name, x.seen(a[0], a[1]), m.seen(a[0], a[1]));
            case "forget" -> {
                check(name, x.forget(), m.now.seen.size());
                m.now.seen.clear();
            }
            case "generations" -> check(name, x.generations(a[0], a[1]), m.generations(a[0], a[1]));
            case "drawn" -> check(name, x.drawn(a[0], a[1]), m.drawn(a[0], a[1]));
            case "image" -> check(name, x.image(a[0]), m.image(a[0]));
            case "back" -> check(name, x.back(a[0]), m.back(a[0]));
            case "count" -> check(name, x.count(a[0]), m.count(a[0]));
            case "status" -> check(name, x.status(), m.status);
            default -> dueOnPaper(call, name, a);
        }
    }

    private void dueOnPaper(String call, String name, int[] a) {
        switch (call) {
            case "exchanged" -> check(name, x.exchanged(a[0]), pick(m.now.exchanged(), a[0]));
            case "look" -> check(name, x.look(a[0]), pick(m.now.look(), a[0]));
            case "letGo" -> check(name, x.letGo(), bits(m.now.letGo()));
            case "way" -> check(name, x.way(a[0], a[1]), a[1] < -1 ? -1 : pick(m.now.way(a[0]), a[1] == -1 ? 0 : a[1] + 2));
            case "brought" -> check(name, x.brought(a[0]), m.now.brought(a[0]));
            case "folds" -> check(name, x.folds(a[0], a[1]), a[0] < 1 || a[0] > 60 || a[1] < -1 ? -1 : pick(m.now.folds(a[0]), a[1] + 1));
            case "resting" -> check(name, x.resting(a[0]), m.now.resting(a[0]));
            case "far" -> check(name, x.far(), m.now.far());
            case "steady" -> check(name, x.steady(), m.now.steady());
            case "compare" -> check(name, x.compare(a[0]), m.compare(a[0]));
            default -> throw new IllegalArgumentException(call);
        }
    }
}
