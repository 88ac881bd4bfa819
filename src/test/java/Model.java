import java.util.ArrayList;
import java.util.Arrays;
import java.util.HashMap;
import java.util.List;
import java.util.Map;

/**
 * The document again, in the slowest and plainest way that could be thought of: trees of lambdas,
 * all cases tried one by one, the whole state copied for each step. ModelTest compares with it.
 */
final class Model {
    static final class Fault extends RuntimeException {
        private static final long serialVersionUID = 1;
        final int at;

        Fault(int at) {
            super(null, null, false, false);
            this.at = at;
        }
    }

    static final class Broken extends RuntimeException {
        private static final long serialVersionUID = 1;

        Broken() {
            super(null, null, false, false);
        }
    }

    interface Words {
        long of(String word);
    }

    interface Sum {
        long of(Words words);
    }

    interface Test {
        boolean of(Words words);
    }

    static final class Clause {
        String kind;
        Sum first;
        Sum second;
        int times = 1;
        Test test;
    }

    static long checked(long value) {
        if (Math.abs(value) > 1_000_000_000L) {
            throw new Broken();
        }
        return value;
    }

    /** One text of either language. */
    static final class Parser {
        final boolean law;
        final List<String> tokens = new ArrayList<>();
        final List<Integer> places = new ArrayList<>();
        int here;
        int parts;

        Parser(String text, boolean law) {
            this.law = law;
            java.util.regex.Matcher m = java.util.regex.Pattern.compile("[a-z]+|[0-9]+|[^ ]", java.util.regex.Pattern.DOTALL).matcher(text);
            while (m.find()) {
                tokens.add(m.group());
                places.add(m.start());
            }
            tokens.add("");
            places.add(text.length());
        }

        String token() {
            return tokens.get(here);
        }

        Fault fault() {
            return new Fault(places.get(here));
        }

        boolean took(String word) {
            if (token().equals(word)) {
                here++;
                return true;
            }
            return false;
        }

        void need(String word) {
            if (!took(word)) {
                throw fault();
            }
        }

        List<Clause> text() {
            List<Clause> clauses = new ArrayList<>();
            do {
                if (clauses.size() == 12) {
                    throw fault();
                }
                clauses.add(clause());
            } while (took(";"));
            if (!token().isEmpty()) {
                throw fault();
            }
            return clauses;
        }

        Clause clause() {
            Clause c = new Clause();
            c.kind = token();
            List<String> kinds = law ? List.of("lifts", "tires", "brings", "bars") : List.of("hold", "drop", "walk", "rest");
            if (!kinds.contains(c.kind)) {
                throw fault();
            }
            here++;
            if (!c.kind.equals("bars") && !c.kind.equals("rest")) {
                c.first = sum(0);
            }
            if (c.kind.equals("hold")) {
                need("at");
                c.second = sum(0);
            }
            if (!law && took("times")) {
                c.times = number(1, 20);
            }
            if (took("if")) {
                c.test = test(0);
            }
            return c;
        }

        int number(int least, int most) {
            if (!token().matches("[0-9]+")) {
                throw fault();
            }
            java.math.BigInteger value = new java.math.BigInteger(token());
            if (value.compareTo(java.math.BigInteger.valueOf(most)) > 0 || value.intValue() < least) {
                throw fault();
            }
            here++;
            return value.intValue();
        }

        Test test(int depth) {
            Test left = both(depth);
            if (took("or")) {
                Test right = test(depth);
                return w -> left.of(w) || right.of(w);
            }
            return left;
        }

        Test both(int depth) {
            Test left = plain(depth);
            if (took("and")) {
                Test right = both(depth);
                return w -> left.of(w) && right.of(w);
            }
            return left;
        }

        Test plain(int depth) {
            if (took("not")) {
                Test inner = plain(depth);
                return w -> !inner.of(w);
            }
            if (token().equals("(")) {
                if (depth == 8) {
                    throw fault();
                }
                here++;
                Test inner = test(depth + 1);
                need(")");
                return inner;
            }
            Sum left = sum(depth);
            String sign = token();
            if (!sign.equals("<") && !sign.equals(">") && !sign.equals("=")) {
                throw fault();
            }
            here++;
            Sum right = sum(depth);
            return w -> {
                long a = left.of(w);
                long b = right.of(w);
                return sign.equals("<") ? a < b : sign.equals(">") ? a > b : a == b;
            };
        }

        Sum sum(int depth) {
            Sum all = term(depth);
            while (token().equals("+") || token().equals("-")) {
                boolean plus = took("+") || !took("-");
                Sum left = all;
                Sum right = term(depth);
                all = w -> {
                    long a = left.of(w);
                    long b = right.of(w);
                    return checked(plus ? a + b : a - b);
                };
            }
            return all;
        }

        Sum term(int depth) {
            Sum all = part(depth);
            while (token().equals("*") || token().equals("/") || token().equals("%")) {
                String sign = token();
                here++;
                Sum left = all;
                Sum right = part(depth);
                all = w -> {
                    long a = left.of(w);
                    long b = right.of(w);
                    if (sign.equals("*")) {
                        return checked(a * b);
                    }
                    if (b == 0) {
                        throw new Broken();
                    }
                    return checked(sign.equals("/") ? a / b : a % b);
                };
            }
            return all;
        }

        Sum part(int depth) {
            if (token().equals("[")) {
                if (depth == 8) {
                    throw fault();
                }
                here++;
                Sum inner = sum(depth + 1);
                need("]");
                return inner;
            }
            if (parts == 50) {
                throw fault();
            }
            if (token().matches("[0-9]+")) {
                long value = number(0, 1000);
                parts++;
                return w -> value;
            }
            List<String> words = law
                ? List.of("girl", "strong", "tired", "yard", "heavy", "mud", "dip", "stiles", "hour", "mood")
                : List.of("hour", "done", "latest", "fate", "place", "dip", "tired");
            String word = token();
            if (!words.contains(word)) {
                throw fault();
            }
            here++;
            parts++;
            if (!law && (word.equals("dip") || word.equals("tired"))) {
                String whole = word + number(0, 7);
                return w -> w.of(whole);
            }
            return w -> w.of(word);
        }
    }

    /** All that images keep. */
    static final class World {
        List<Integer> heavy = new ArrayList<>();
        List<Integer> mud = new ArrayList<>();
        List<Integer> strong = new ArrayList<>();
        List<Integer> tired = new ArrayList<>();
        List<Integer> holds = new ArrayList<>();
        Map<List<Integer>, Integer> lanes = new HashMap<>();
        int place;
        int fate;
        List<int[]> seen = new ArrayList<>();
        int[] terms = {0, 1, 0};
        List<List<Clause>> laws = new ArrayList<>();
        int force = -1;

        World copy() {
            World w = new World();
            w.heavy.addAll(heavy);
            w.mud.addAll(mud);
            w.strong.addAll(strong);
            w.tired.addAll(tired);
            w.holds.addAll(holds);
            w.lanes.putAll(lanes);
            w.place = place;
            w.fate = fate;
            w.seen.addAll(seen);
            w.terms = terms.clone();
            w.laws.addAll(laws);
            w.force = force;
            return w;
        }

        boolean yard(int y) {
            return y >= 0 && y < heavy.size();
        }

        boolean girl(int g) {
            return g >= 0 && g < strong.size();
        }

        int lane(int a, int b) {
            return lanes.getOrDefault(List.of(Math.min(a, b), Math.max(a, b)), -1);
        }

        Integer told(String kind, int girl, int yard, int dip, int stiles) {
            Integer last = null;
            if (force < 0) {
                return null;
            }
            Words words = word -> switch (word) {
                case "girl" -> girl;
                case "strong" -> girl < 0 ? -1 : strong.get(girl);
                case "tired" -> girl < 0 ? -1 : tired.get(girl);
                case "yard" -> yard;
                case "heavy" -> heavy.get(yard);
                case "mud" -> mud.get(yard);
                case "dip" -> dip;
                case "stiles" -> stiles;
                case "hour" -> terms[0];
                case "mood" -> terms[2];
                default -> throw new IllegalStateException(word);
            };
            for (Clause c : laws.get(force)) {
                if (c.kind.equals(kind)) {
                    try {
                        if (c.test == null || c.test.of(words)) {
                            last = c.first == null ? 1 : (int) c.first.of(words);
                        }
                    } catch (Broken e) {
                        continue;
                    }
                }
            }
            return last;
        }

        static int clamp(int v, int most) {
            return v < 0 ? 0 : v > most ? most : v;
        }

        int lifts(int g, int y) {
            Integer t = told("lifts", g, y, -1, -1);
            return t == null ? Math.max(0, strong.get(g) - tired.get(g)) : clamp(t, 20);
        }

        boolean barred(int g, int y) {
            return told("bars", g, y, -1, -1) != null;
        }

        int dip(int y) {
            int dip = heavy.get(y) + mud.get(y);
            for (int g = 0; g < strong.size(); g++) {
                if (holds.get(g) == y) {
                    dip -= lifts(g, y);
                }
            }
            return Math.max(0, dip);
        }

        int brings(int y) {
            int dip = dip(y);
            if (dip == 0) {
                return 0;
            }
            Integer t = told("brings", -1, y, dip, -1);
            return t == null ? dip : clamp(t, 99);
        }

        int brings() {
            int all = 0;
            for (int y = 0; y < heavy.size(); y++) {
                all += brings(y);
            }
            return all;
        }

        int hold(int g, int y) {
            if (!girl(g) || !yard(y)) {
                return -2;
            }
            int others = 0;
            for (int h : holds) {
                if (h == y) {
                    others++;
                }
            }
            if (holds.get(g) == y || others >= 2 || barred(g, y)) {
                return -3;
            }
            holds.set(g, y);
            return dip(y);
        }

        int drop(int g) {
            if (!girl(g)) {
                return -2;
            }
            int y = holds.get(g);
            if (y == -1) {
                return -3;
            }
            holds.set(g, -1);
            return y;
        }

        int walk(int p) {
            if (p < 0 || p > 5) {
                return -1;
            }
            int stiles = lane(place, p);
            if (stiles == -1) {
                return -3;
            }
            World was = copy();
            int brought = was.brings();
            for (int y = 0; y < heavy.size(); y++) {
                if (was.dip(y) > 0) {
                    mud.set(y, Math.min(9, mud.get(y) + 1));
                }
            }
            for (int g = 0; g < strong.size(); g++) {
                if (holds.get(g) != -1) {
                    Integer t = was.told("tires", g, holds.get(g), -1, stiles);
                    int tires = t == null ? Math.min(9, stiles + 1) : clamp(t, 9);
                    tired.set(g, Math.min(9, tired.get(g) + tires));
                }
            }
            fate = Math.min(9999, fate + brought);
            place = p;
            return brought;
        }

        int rest() {
            if (terms[0] == 999) {
                return -3;
            }
            terms[0]++;
            tired.replaceAll(t -> Math.max(0, t - 1));
            return terms[0];
        }

        /** Rows of sets by yards: brought, girls, then the sets; the least row of all. */
        int[] borne() {
            int[] best = null;
            int g = strong.size();
            int y = heavy.size();
            int[] choice = new int[g];
            Arrays.fill(choice, -1);
            while (true) {
                int[] row = borneBy(choice);
                if (row != null && (best == null || Arrays.compare(row, best) < 0)) {
                    best = row;
                }
                int i = 0;
                while (i < g && choice[i] == y - 1) {
                    choice[i] = -1;
                    i++;
                }
                if (i == g) {
                    return best;
                }
                choice[i]++;
            }
        }

        private int[] borneBy(int[] choice) {
            World w = copy();
            int[] row = new int[2 + heavy.size()];
            for (int g = 0; g < choice.length; g++) {
                w.holds.set(g, choice[g]);
                if (choice[g] >= 0) {
                    if (barred(g, choice[g])) {
                        return null;
                    }
                    row[1]++;
                    row[2 + choice[g]] |= 1 << g;
                    if (Integer.bitCount(row[2 + choice[g]]) > 2) {
                        return null;
                    }
                }
            }
            row[0] = w.brings();
            return row;
        }

        int[] exchanged() {
            int[] best = {-1, brings()};
            for (int a = 0; a < strong.size(); a++) {
                for (int b = a + 1; b < strong.size(); b++) {
                    World w = copy();
                    w.holds.set(a, holds.get(b));
                    w.holds.set(b, holds.get(a));
                    // Those who hold the same yard need no test of their own: nothing is less by it.
                    boolean barred = w.holds.get(a) != -1 && barred(a, w.holds.get(a))
                        || w.holds.get(b) != -1 && barred(b, w.holds.get(b));
                    if (!barred && w.brings() < best[1]) {
                        best = new int[] {10 * a + b, w.brings()};
                    }
                }
            }
            return best[0] == -1 ? null : best;
        }

        List<Integer> letGo() {
            List<Integer> who = new ArrayList<>();
            for (int g = 0; g < strong.size(); g++) {
                if (holds.get(g) != -1) {
                    World w = without(g);
                    boolean so = true;
                    for (int[] s : seen) {
                        so &= w.dip(s[0]) == s[1];
                    }
                    if (so) {
                        who.add(g);
                    }
                }
            }
            return who;
        }

        private World without(int g) {
            World w = copy();
            w.holds.set(g, -1);
            return w;
        }

        int[] look() {
            List<Integer> who = letGo();
            if (who.isEmpty()) {
                return null;
            }
            int[] best = null;
            for (int y = 0; y < heavy.size(); y++) {
                Map<Integer, Integer> by = new HashMap<>();
                int most = 0;
                for (int g : who) {
                    most = Math.max(most, by.merge(without(g).dip(y), 1, Integer::sum));
                }
                if (best == null || most < best[1]) {
                    best = new int[] {y, most};
                }
            }
            return best;
        }

        /** Stiles, lanes, then the places. */
        int[] way(int to) {
            if (to < 0 || to > 5) {
                return null;
            }
            return way(to, place, new int[] {0, 0}, 1 << place);
        }

        private int[] way(int to, int from, int[] row, int been) {
            if (from == to) {
                return row;
            }
            int[] best = null;
            for (int p = 0; p < 6; p++) {
                if (lane(from, p) != -1 && (been >> p & 1) == 0) {
                    int[] longer = Arrays.copyOf(row, row.length + 1);
                    longer[0] += lane(from, p);
                    longer[1]++;
                    longer[row.length] = p;
                    int[] whole = way(to, p, longer, been | 1 << p);
                    if (whole != null && (best == null || Arrays.compare(whole, best) < 0)) {
                        best = whole;
                    }
                }
            }
            return best;
        }

        int brought(int to) {
            int[] way = way(to);
            if (way == null) {
                return -1;
            }
            World w = copy();
            for (int i = 2; i < way.length; i++) {
                w.walk(way[i]);
            }
            return w.fate - fate;
        }

        /** How many, then the fold of each yard; null if it can't be. */
        int[] folds(int wide) {
            int n = heavy.size();
            int[] best = n == 0 ? new int[] {0} : null;
            for (int cuts = 0; n > 0 && cuts < 1 << (n - 1); cuts++) {
                int[] row = new int[n + 1];
                int fold = 0;
                int[] load = new int[n];
                for (int y = 0; y < n; y++) {
                    if (y > 0 && (cuts >> (y - 1) & 1) != 0) {
                        fold++;
                    }
                    row[y + 1] = fold;
                    load[fold] += heavy.get(y) + mud.get(y);
                }
                row[0] = fold + 1;
                boolean fits = Arrays.stream(load).allMatch(l -> l <= wide);
                if (fits && (best == null || Arrays.compare(row, best) < 0)) {
                    best = row;
                }
            }
            return best;
        }

        int resting(int p) {
            if (p < 0 || p > 5 || lane(place, p) == -1) {
                return -1;
            }
            World w = copy();
            for (int h = 0; h <= 20; h++) {
                if (w.copy().walk(p) == 0) {
                    return h;
                }
                if (w.rest() < 0) {
                    return -1;
                }
            }
            return -1;
        }

        int far() {
            int bits = 0;
            for (int p = 0; p < 6; p++) {
                if (copy().walk(p) == 0) {
                    bits |= 1 << p;
                }
            }
            return bits;
        }

        long steady() {
            long parts = 1_000_000_000_000L;
            for (int g = 0; g < strong.size(); g++) {
                if (holds.get(g) != -1) {
                    parts = parts * (10 - terms[1] * tired.get(g) / 9) / 10;
                }
            }
            return parts;
        }
    }

    World now = new World();
    World[] images = new World[2];
    /** Worlds as they were ahead of a deed, and its kind. */
    List<Object[]> undo = new ArrayList<>();
    StringBuilder tape = new StringBuilder();
    int fault = -1;
    int stopped = -1;
    int puddles;
    int status;
    int[] refused = new int[7];
    World drawn;

    int answer(int told) {
        if (told < 0) {
            return refuse(told);
        }
        status = 0;
        return told;
    }

    int refuse(int by) {
        status = by;
        refused[-by]++;
        return by;
    }

    int yard(int heavy) {
        if (heavy < 1 || heavy > 20) {
            return refuse(-1);
        }
        if (now.heavy.size() == 8) {
            return refuse(-5);
        }
        now.heavy.add(heavy);
        now.mud.add(0);
        undo.clear();
        return answer(now.heavy.size() - 1);
    }

    int girl(int strong) {
        if (strong < 0 || strong > 9) {
            return refuse(-1);
        }
        if (now.strong.size() == 8) {
            return refuse(-5);
        }
        now.strong.add(strong);
        now.tired.add(0);
        now.holds.add(-1);
        undo.clear();
        return answer(now.strong.size() - 1);
    }

    int at(int y, int what) {
        if (!now.yard(y)) {
            return -1;
        }
        int bits = 0;
        for (int g = 0; g < now.holds.size(); g++) {
            bits |= now.holds.get(g) == y ? 1 << g : 0;
        }
        return what == 0 ? now.heavy.get(y) : what == 1 ? now.mud.get(y) : what == 2 ? bits
            : what == 3 ? now.dip(y) : what == 4 ? now.brings(y) : -1;
    }

    int of(int g, int what) {
        if (!now.girl(g)) {
            return -1;
        }
        return what == 0 ? now.strong.get(g) : what == 1 ? now.tired.get(g) : what == 2 ? now.holds.get(g) : -1;
    }

    int asks(int g, int y, int what) {
        if (!now.girl(g) || !now.yard(y)) {
            return -1;
        }
        return what == 0 ? now.lifts(g, y) : what == 1 ? now.barred(g, y) ? 1 : 0 : -1;
    }

    static boolean canBe(int a, int b, int stiles) {
        return a >= 0 && a < 6 && b >= 0 && b < 6 && a != b && stiles >= -1 && stiles <= 9;
    }

    void lay(int a, int b, int stiles) {
        now.lanes.put(List.of(Math.min(a, b), Math.max(a, b)), stiles);
    }

    int lane(int a, int b, int stiles) {
        if (!canBe(a, b, stiles)) {
            return refuse(-1);
        }
        int was = now.lane(a, b);
        lay(a, b, stiles);
        status = 0;
        return was;
    }

    int terms(int what, int value) {
        int[] most = {999, 10, 9};
        if (what < 0 || what > 2 || value < 0 || value > most[what]) {
            return refuse(-1);
        }
        int was = now.terms[what];
        now.terms[what] = value;
        undo.clear();
        return answer(was);
    }

    int feed(int... five) {
        if (tape.length() + 20 > 400) {
            return -1;
        }
        for (int n : five) {
            for (int i = 3; i >= 0; i--) {
                tape.append((char) (n >>> 8 * i & 255));
            }
        }
        return tape.length();
    }

    int end(int n) {
        if (n < 0 || n > tape.length()) {
            return -1;
        }
        tape.setLength(n);
        return n;
    }

    String takeTape() {
        String text = tape.toString();
        tape.setLength(0);
        return text;
    }

    int row() {
        String bytes = takeTape();
        if (bytes.isEmpty()) {
            return refuse(-6);
        }
        int told = 0;
        puddles = 0;
        for (int i = 0; i < bytes.length(); i += 3) {
            if (i + 3 <= bytes.length()) {
                int stiles = bytes.charAt(i + 2) == 255 ? -1 : bytes.charAt(i + 2);
                if (canBe(bytes.charAt(i), bytes.charAt(i + 1), stiles)) {
                    lay(bytes.charAt(i), bytes.charAt(i + 1), stiles);
                    told++;
                    continue;
                }
            }
            puddles++;
        }
        return answer(told);
    }

    List<Clause> read(boolean law) {
        fault = -1;
        try {
            return new Parser(takeTape(), law).text();
        } catch (Fault f) {
            fault = f.at;
            return null;
        }
    }

    int law() {
        if (now.laws.size() == 6) {
            takeTape();
            return refuse(-5);
        }
        List<Clause> text = read(true);
        if (text == null) {
            return refuse(-6);
        }
        now.laws.add(text);
        return answer(now.laws.size() - 1);
    }

    int orders() {
        stopped = -1;
        List<Clause> text = read(false);
        if (text == null) {
            return refuse(-6);
        }
        World was = now.copy();
        List<Object[]> undoWas = new ArrayList<>(undo);
        int[] done = {0};
        long[] latest = {-1};
        Words words = word -> {
            int last = word.charAt(word.length() - 1) - '0';
            if (word.startsWith("dip")) {
                return now.yard(last) ? now.dip(last) : -1;
            }
            if (word.startsWith("tired")) {
                return now.girl(last) ? now.tired.get(last) : -1;
            }
            return switch (word) {
                case "hour" -> now.terms[0];
                case "done" -> done[0];
                case "latest" -> latest[0];
                case "fate" -> now.fate;
                case "place" -> now.place;
                default -> throw new IllegalStateException(word);
            };
        };
        for (int c = 0; c < text.size(); c++) {
            Clause clause = text.get(c);
            for (int i = 0; i < clause.times; i++) {
                boolean so;
                try {
                    so = clause.test == null || clause.test.of(words);
                } catch (Broken e) {
                    so = false;
                }
                if (!so) {
                    continue;
                }
                int told;
                try {
                    int one = clause.first == null ? 0 : (int) clause.first.of(words);
                    int two = clause.second == null ? 0 : (int) clause.second.of(words);
                    told = deed(List.of("hold", "drop", "walk", "rest").indexOf(clause.kind), one, two);
                } catch (Broken e) {
                    told = -3;
                }
                if (told < 0) {
                    now = was;
                    undo = undoWas;
                    stopped = c;
                    return refuse(-3);
                }
                done[0]++;
                if (clause.kind.equals("walk")) {
                    latest[0] = told;
                }
            }
        }
        return answer(done[0]);
    }

    int deed(int kind, int one, int two) {
        World was = now.copy();
        int told = kind == 0 ? now.hold(one, two) : kind == 1 ? now.drop(one) : kind == 2 ? now.walk(one) : now.rest();
        if (told >= 0) {
            undo.add(new Object[] {was, kind});
            if (undo.size() > 16) {
                undo.remove(0);
            }
        }
        return told;
    }

    int undo() {
        if (undo.isEmpty()) {
            return refuse(-3);
        }
        Object[] latest = undo.remove(undo.size() - 1);
        World was = (World) latest[0];
        now.holds = new ArrayList<>(was.holds);
        now.tired = new ArrayList<>(was.tired);
        now.mud = new ArrayList<>(was.mud);
        now.place = was.place;
        now.fate = was.fate;
        now.terms[0] = was.terms[0];
        return answer((Integer) latest[1]);
    }

    int force(int law) {
        if (law < -1 || law >= now.laws.size()) {
            return refuse(-2);
        }
        int was = now.force;
        now.force = law;
        status = 0;
        return was;
    }

    int seen(int y, int dip) {
        if (dip < 0 || dip > 40) {
            return refuse(-1);
        }
        if (!now.yard(y)) {
            return refuse(-2);
        }
        if (now.seen.size() == 6) {
            return refuse(-5);
        }
        now.seen.add(new int[] {y, dip});
        return answer(now.seen.size());
    }

    int generations(int seed, int n) {
        if (seed < 0 || seed > 1_000_000 || n < 1 || n > 60) {
            return refuse(-1);
        }
        if (now.strong.isEmpty() || now.heavy.isEmpty()) {
            return refuse(-3);
        }
        World w = now.copy();
        long[] s = {seed};
        for (int i = 0; i < n && w.terms[0] != 999; i++) {
            int g = draw(s, w.strong.size());
            int y = draw(s, w.heavy.size());
            int p = draw(s, 6);
            int deed = draw(s, 4);
            if (deed == 0) {
                w.hold(g, y);
            }
            if (deed == 1) {
                w.drop(g);
            }
            if (deed == 2) {
                w.walk(p);
            }
            w.rest();
        }
        drawn = w;
        return answer(w.fate - now.fate);
    }

    static int draw(long[] s, int m) {
        s[0] = (s[0] * 1103 + 12345) % 1_000_003;
        return (int) (s[0] % m);
    }

    int drawn(int k, int what) {
        if (drawn == null) {
            return -1;
        }
        return what == 0 && drawn.girl(k) ? drawn.tired.get(k) : what == 1 && drawn.girl(k) ? drawn.holds.get(k)
            : what == 2 && drawn.yard(k) ? drawn.mud.get(k) : -1;
    }

    int image(int k) {
        if (k < 0 || k > 1) {
            return refuse(-1);
        }
        images[k] = now.copy();
        return answer(0);
    }

    int back(int k) {
        if (k < 0 || k > 1) {
            return refuse(-1);
        }
        if (images[k] == null) {
            return refuse(-2);
        }
        now = images[k].copy();
        undo.clear();
        return answer(0);
    }

    int compare(int law) {
        if (law < -1 || law >= now.laws.size()) {
            return -1;
        }
        World w = now.copy();
        w.force = law;
        return w.brings();
    }

    int count(int what) {
        int[] all = {now.heavy.size(), now.strong.size(), (int) now.holds.stream().filter(h -> h != -1).count(),
            now.fate, now.place, now.seen.size(), now.laws.size(), undo.size(), tape.length(),
            refused[1], refused[2], refused[3], refused[5], refused[6], now.force,
            now.terms[0], now.terms[1], now.terms[2]};
        return what < 0 || what >= all.length ? -1 : all[what];
    }
}
