import java.util.Arrays;

/**
 * Bridesmaids who carry the future: a train in yards, girls who hold it by twos and tire, lanes,
 * laws and orders. The document's promises say what each call answers; README.md names the parts.
 */
public final class TrainBearers {
    public static final int NONE = -1;

    private static final int BAD_NUMBER = -1;
    private static final int MISSING = -2;
    private static final int CANNOT = -3;
    private static final int NO_ROOM = -5;
    private static final int BAD_TEXT = -6;

    private static final int MOST = 8;
    private static final int BY_TWOS = 2;
    private static final int PLACES = 6;
    private static final int LAWS = 6;
    private static final int SIGHTS = 6;
    private static final int IMAGES = 2;
    private static final int UNDOS = 16;
    private static final int TAPE = 400;
    private static final int TAPE_FEED = 20;
    private static final int CLAUSES = 12;
    private static final int PARTS = 50;
    private static final int BRACKETS = 8;

    private static final int MOST_HEAVY = 20;
    private static final int MOST_MUD = 9;
    private static final int MOST_STRONG = 9;
    private static final int MOST_TIRED = 9;
    private static final int MOST_STILES = 9;
    private static final int MOST_FATE = 9999;
    private static final int MOST_DIP_SEEN = 40;
    private static final int MOST_LIFTED = 20;
    private static final int MOST_TIRING = 9;
    private static final int MOST_BROUGHT = 99;
    private static final int MOST_REST = 20;
    private static final int WIDEST_FOLD = 60;
    private static final int LAST_HOUR = 999;
    private static final int MOST_SEED = 1000000;
    private static final int MOST_GENERATIONS = 60;
    private static final long CERTAIN = 1000000000000L;
    private static final int NO_LANE_BYTE = 255;

    private static final int HOUR = 0;
    private static final int STUMBLE = 1;
    private static final int MOOD = 2;
    private static final int[] MOST_TERM = {999, 10, 9};

    // The kinds of a law's clauses, as LAW_KINDS has them.
    private static final int LIFTS = 0;
    private static final int TIRES = 1;
    private static final int BRINGS = 2;
    private static final int BARS = 3;

    // The kinds of an order's clauses, as ORDER_KINDS has them; undo() answers these numbers.
    private static final int HOLD = 0;
    private static final int DROP = 1;
    private static final int WALK = 2;
    private static final int REST = 3;

    private static final int LAW_WORD_COUNT = 10;
    // Where the words of orders stand; those of dip and tired have a slot for each yard and girl.
    private static final int WORD_HOUR = 0;
    private static final int WORD_DONE = 1;
    private static final int WORD_LATEST = 2;
    private static final int WORD_FATE = 3;
    private static final int WORD_PLACE = 4;
    private static final int WORD_DIP = 5;
    private static final int WORD_TIRED = WORD_DIP + MOST;
    private static final int ORDER_WORD_COUNT = WORD_TIRED + MOST;

    // What the code of a text is made of.
    private static final int STOP = 0;
    private static final int NUMBER = 1;
    private static final int WORD = 2;
    private static final int NOT = 3;
    private static final int AND = 4;
    private static final int OR = 5;
    private static final int ADD = 6;
    private static final int SUBTRACT = 7;
    private static final int MULTIPLY = 8;
    private static final int DIVIDE = 9;
    private static final int REMAIN = 10;
    private static final int LESS = 11;
    private static final int MORE = 12;
    private static final int EQUAL = 13;

    private static final long FARTHEST = 1000000000L;
    private static final long TOO_FAR = FARTHEST + 1;
    // Below every sum that is not broken, so that one number can tell both.
    private static final int BROKEN = -2000000000;

    private Train now = new Train();
    // Where walks on paper and orders that may still fail are tried.
    private Train paper = new Train();
    private final Train drawnTrain = new Train();
    private final Train[] images = {new Train(), new Train()};
    private final boolean[] imageKept = new boolean[IMAGES];
    private Steps steps = new Steps();
    private Steps paperSteps = new Steps();
    private final Reader reader = new Reader();
    private final Rules rules = new Rules();
    private final Deeds deeds = new Deeds();
    private final Bearing bearing = new Bearing();
    private final Guess guess = new Guess();
    private final Ways ways = new Ways();
    private final int[] refusals = new int[7];
    private int latestRefusal;
    private int rowPuddles;

    public TrainBearers() {
    }

    public int yard(int heavy) {
        if (heavy < 1 || heavy > MOST_HEAVY) {
            return refuse(BAD_NUMBER);
        }
        if (now.yards >= MOST) {
            return refuse(NO_ROOM);
        }
        now.heavy[now.yards] = heavy;
        now.mud[now.yards] = 0;
        now.yards++;
        steps.clear();
        return accept(now.yards - 1);
    }

    public int at(int yard, int what) {
        if (!now.hasYard(yard)) {
            return NONE;
        }
        switch (what) {
            case 0:
                return now.heavy[yard];
            case 1:
                return now.mud[yard];
            case 2:
                return now.holders(yard);
            case 3:
                return rules.dip(now, yard);
            case 4:
                return rules.brings(now, yard, rules.dip(now, yard));
            default:
                return NONE;
        }
    }

    public int girl(int strong) {
        if (strong < 0 || strong > MOST_STRONG) {
            return refuse(BAD_NUMBER);
        }
        if (now.girls >= MOST) {
            return refuse(NO_ROOM);
        }
        now.strong[now.girls] = strong;
        now.tired[now.girls] = 0;
        now.holds[now.girls] = NONE;
        now.girls++;
        steps.clear();
        return accept(now.girls - 1);
    }

    public int of(int girl, int what) {
        if (!now.hasGirl(girl)) {
            return NONE;
        }
        switch (what) {
            case 0:
                return now.strong[girl];
            case 1:
                return now.tired[girl];
            case 2:
                return now.holds[girl];
            default:
                return NONE;
        }
    }

    public int asks(int girl, int yard, int what) {
        if (!now.hasGirl(girl) || !now.hasYard(yard)) {
            return NONE;
        }
        if (what == 0) {
            return rules.lifts(now, girl, yard);
        }
        if (what == 1) {
            return rules.bars(now, girl, yard) ? 1 : 0;
        }
        return NONE;
    }

    public int lane(int one, int other, int stiles) {
        if (!canBeLane(one, other, stiles)) {
            return refuse(BAD_NUMBER);
        }
        int was = now.stilesBetween(one, other);
        now.layLane(one, other, stiles);
        return accept(was);
    }

    public int stiles(int one, int other) {
        return now.stilesBetween(one, other);
    }

    public int terms(int what, int value) {
        if (what < 0 || what >= MOST_TERM.length || value < 0 || value > MOST_TERM[what]) {
            return refuse(BAD_NUMBER);
        }
        int was = now.terms[what];
        now.terms[what] = value;
        steps.clear();
        return accept(was);
    }

    public int feed(int a, int b, int c, int d, int e) {
        if (reader.size > TAPE - TAPE_FEED) {
            return NONE;
        }
        reader.append(a);
        reader.append(b);
        reader.append(c);
        reader.append(d);
        reader.append(e);
        return reader.size;
    }

    public int end(int n) {
        if (n < 0 || n > reader.size) {
            return NONE;
        }
        reader.size = n;
        return n;
    }

    public int row() {
        if (reader.size == 0) {
            return refuse(BAD_TEXT);
        }
        int told = 0;
        rowPuddles = 0;
        for (int i = 0; i < reader.size; i += 3) {
            if (layTold(i)) {
                told++;
            } else {
                rowPuddles++;
            }
        }
        reader.size = 0;
        return accept(told);
    }

    public int puddles() {
        return rowPuddles;
    }

    public int law() {
        if (now.laws >= LAWS) {
            reader.size = 0;
            return refuse(NO_ROOM);
        }
        boolean fine = reader.readText(true);
        reader.size = 0;
        if (!fine) {
            return refuse(BAD_TEXT);
        }
        now.lawTexts[now.laws] = new Text(reader.text);
        now.laws++;
        return accept(now.laws - 1);
    }

    public int orders() {
        deeds.stopped = NONE;
        boolean fine = reader.readText(false);
        reader.size = 0;
        if (!fine) {
            return refuse(BAD_TEXT);
        }
        paper.copyFrom(now);
        paperSteps.copyFrom(steps);
        int done = deeds.runText(reader.text, paper, paperSteps);
        if (done < 0) {
            return refuse(done);
        }
        takePaper();
        return accept(done);
    }

    public int fault() {
        return reader.fault;
    }

    public int stopped() {
        return deeds.stopped;
    }

    public int force(int law) {
        if (law != NONE && !now.hasLaw(law)) {
            return refuse(MISSING);
        }
        int was = now.inForce;
        now.inForce = law;
        return accept(was);
    }

    public int hold(int girl, int yard) {
        return settle(deeds.takeHold(now, steps, girl, yard));
    }

    public int drop(int girl) {
        return settle(deeds.letDrop(now, steps, girl));
    }

    public int walk(int place) {
        return settle(deeds.walkTo(now, steps, place));
    }

    public int rest() {
        return settle(deeds.restAll(now, steps));
    }

    public int undo() {
        return settle(steps.takeBack(now));
    }

    public int borne(int what) {
        if (what < 0 || what - 2 >= now.yards) {
            return NONE;
        }
        bearing.solve(now, rules);
        if (what == 0) {
            return bearing.leastBrought();
        }
        return what == 1 ? bearing.fewestGirls() : bearing.chosen[what - 2];
    }

    public int exchanged(int what) {
        if (what != 0 && what != 1) {
            return NONE;
        }
        int best = bestExchange();
        if (best == NONE) {
            return NONE;
        }
        return what == 0 ? best % 100 : best / 100;
    }

    public int seen(int yard, int dip) {
        if (dip < 0 || dip > MOST_DIP_SEEN) {
            return refuse(BAD_NUMBER);
        }
        if (!now.hasYard(yard)) {
            return refuse(MISSING);
        }
        if (now.sights >= SIGHTS) {
            return refuse(NO_ROOM);
        }
        now.sightYard[now.sights] = yard;
        now.sightDip[now.sights] = dip;
        now.sights++;
        return accept(now.sights);
    }

    public int forget() {
        int was = now.sights;
        now.sights = 0;
        return was;
    }

    public int letGo() {
        paper.copyFrom(now);
        return guess.suspects(paper, rules);
    }

    public int look(int what) {
        if (what != 0 && what != 1) {
            return NONE;
        }
        paper.copyFrom(now);
        int suspects = guess.suspects(paper, rules);
        int yard = guess.tellingYard(suspects, now.yards);
        if (yard == NONE) {
            return NONE;
        }
        return what == 0 ? yard : guess.mostAlike(suspects, yard);
    }

    public int way(int place, int i) {
        if (i < NONE || !ways.measure(now, place)) {
            return NONE;
        }
        if (i == NONE) {
            return ways.stilesFrom(now.place);
        }
        int there = now.place;
        for (int k = 0; k < PLACES && k <= i; k++) {
            there = ways.nextPlace(now, there);
        }
        return i < PLACES ? there : NONE;
    }

    public int brought(int place) {
        if (!ways.measure(now, place)) {
            return NONE;
        }
        paper.copyFrom(now);
        for (int k = 0; k < PLACES && paper.place != place; k++) {
            deeds.walkTo(paper, paperSteps, ways.nextPlace(paper, paper.place));
        }
        return paper.fate - now.fate;
    }

    public int folds(int w, int yard) {
        if (w < 1 || w > WIDEST_FOLD || yard != NONE && !now.hasYard(yard)) {
            return NONE;
        }
        int folds = 0;
        int room = 0;
        int asked = NONE;
        for (int y = 0; y < now.yards; y++) {
            int load = now.heavy[y] + now.mud[y];
            if (load > w) {
                return NONE;
            }
            if (load > room) {
                folds++;
                room = w;
            }
            room -= load;
            if (y == yard) {
                asked = folds - 1;
            }
        }
        return yard == NONE ? folds : asked;
    }

    public int resting(int place) {
        if (now.stilesBetween(now.place, place) == NONE) {
            return NONE;
        }
        paper.copyFrom(now);
        for (int hours = 0; hours <= MOST_REST; hours++) {
            if (rules.together(paper) == 0) {
                return hours;
            }
            if (deeds.restAll(paper, paperSteps) < 0) {
                return NONE;
            }
        }
        return NONE;
    }

    public int far() {
        if (rules.together(now) != 0) {
            return 0;
        }
        int reached = 0;
        for (int p = 0; p < PLACES; p++) {
            if (now.stilesBetween(now.place, p) != NONE) {
                reached |= 1 << p;
            }
        }
        return reached;
    }

    public long steady() {
        long parts = CERTAIN;
        for (int g = 0; g < now.girls; g++) {
            if (now.holds[g] != NONE) {
                int sure = 10 - now.terms[STUMBLE] * now.tired[g] / 9;
                parts = parts * sure / 10;
            }
        }
        return parts;
    }

    public int compare(int law) {
        if (law != NONE && !now.hasLaw(law)) {
            return NONE;
        }
        paper.copyFrom(now);
        paper.inForce = law;
        return rules.together(paper);
    }

    public int generations(int seed, int n) {
        if (seed < 0 || seed > MOST_SEED || n < 1 || n > MOST_GENERATIONS) {
            return refuse(BAD_NUMBER);
        }
        if (now.girls == 0 || now.yards == 0) {
            return refuse(CANNOT);
        }
        paper.copyFrom(now);
        deeds.drawGenerations(paper, paperSteps, seed, n);
        drawnTrain.copyFrom(paper);
        return accept(paper.fate - now.fate);
    }

    public int drawn(int k, int what) {
        if (what == 0 && drawnTrain.hasGirl(k)) {
            return drawnTrain.tired[k];
        }
        if (what == 1 && drawnTrain.hasGirl(k)) {
            return drawnTrain.holds[k];
        }
        if (what == 2 && drawnTrain.hasYard(k)) {
            return drawnTrain.mud[k];
        }
        return NONE;
    }

    public int image(int k) {
        if (k < 0 || k >= IMAGES) {
            return refuse(BAD_NUMBER);
        }
        images[k].copyFrom(now);
        imageKept[k] = true;
        return accept(0);
    }

    public int back(int k) {
        if (k < 0 || k >= IMAGES) {
            return refuse(BAD_NUMBER);
        }
        if (!imageKept[k]) {
            return refuse(MISSING);
        }
        now.copyFrom(images[k]);
        steps.clear();
        return accept(0);
    }

    public int count(int what) {
        switch (what) {
            case 0:
                return now.yards;
            case 1:
                return now.girls;
            case 2:
                return now.busyGirls();
            case 3:
                return now.fate;
            case 4:
                return now.place;
            case 5:
                return now.sights;
            case 6:
                return now.laws;
            case 7:
                return steps.size;
            case 8:
                return reader.size;
            case 14:
                return now.inForce;
            default:
                return countRefusedOrTerm(what);
        }
    }

    public int status() {
        return latestRefusal;
    }

    private int countRefusedOrTerm(int what) {
        switch (what) {
            case 9:
                return refusals[-BAD_NUMBER];
            case 10:
                return refusals[-MISSING];
            case 11:
                return refusals[-CANNOT];
            case 12:
                return refusals[-NO_ROOM];
            case 13:
                return refusals[-BAD_TEXT];
            case 15:
                return now.terms[HOUR];
            case 16:
                return now.terms[STUMBLE];
            case 17:
                return now.terms[MOOD];
            default:
                return NONE;
        }
    }

    private int refuse(int by) {
        latestRefusal = by;
        if (by < 0 && by > -refusals.length) {
            refusals[-by]++;
        }
        return by;
    }

    private int accept(int told) {
        latestRefusal = 0;
        return told;
    }

    /** Only for answers that are never below 0 unless they refuse. */
    private int settle(int told) {
        return told < 0 ? refuse(told) : accept(told);
    }

    private static boolean isPlace(int place) {
        return place >= 0 && place < PLACES;
    }

    private static boolean canBeLane(int one, int other, int stiles) {
        return isPlace(one) && isPlace(other) && one != other
            && stiles >= NONE && stiles <= MOST_STILES;
    }

    private static int within(int value, int most) {
        return Math.max(0, Math.min(most, value));
    }

    /** The lane that three bytes of the tape tell; false for a puddle. */
    private boolean layTold(int i) {
        if (i + 2 >= reader.size) {
            return false;
        }
        int stiles = reader.tape[i + 2] == NO_LANE_BYTE ? NONE : reader.tape[i + 2];
        if (!canBeLane(reader.tape[i], reader.tape[i + 1], stiles)) {
            return false;
        }
        now.layLane(reader.tape[i], reader.tape[i + 1], stiles);
        return true;
    }

    /** What orders did on paper stands, once none of them failed. */
    private void takePaper() {
        Train train = now;
        now = paper;
        paper = train;
        Steps kept = steps;
        steps = paperSteps;
        paperSteps = kept;
    }

    /** A hundred times what is brought, and the two: so the least number is the one that is due. */
    private int bestExchange() {
        paper.copyFrom(now);
        int limit = rules.together(now) * 100;
        int best = limit;
        for (int a = 0; a < now.girls; a++) {
            for (int b = a + 1; b < now.girls; b++) {
                if (now.holds[a] != now.holds[b] && mayTake(a, now.holds[b]) && mayTake(b, now.holds[a])) {
                    paper.holds[a] = now.holds[b];
                    paper.holds[b] = now.holds[a];
                    best = Math.min(best, rules.together(paper) * 100 + 10 * a + b);
                    paper.holds[a] = now.holds[a];
                    paper.holds[b] = now.holds[b];
                }
            }
        }
        return best < limit ? best : NONE;
    }

    /** From no yard at all none is barred, whatever a law would tell of it. */
    private boolean mayTake(int girl, int yard) {
        return yard == NONE || !rules.bars(now, girl, yard);
    }

    /** All that an image keeps. */
    private static final class Train {
        int yards;
        final int[] heavy = new int[MOST];
        final int[] mud = new int[MOST];
        int girls;
        final int[] strong = new int[MOST];
        final int[] tired = new int[MOST];
        final int[] holds = new int[MOST];
        final int[] lanes = new int[PLACES * PLACES];
        int place;
        int fate;
        int sights;
        final int[] sightYard = new int[SIGHTS];
        final int[] sightDip = new int[SIGHTS];
        final int[] terms = {0, 1, 0};
        int laws;
        // Texts of laws never change, so that images can share them.
        final Text[] lawTexts = new Text[LAWS];
        int inForce = NONE;

        Train() {
            Arrays.fill(holds, NONE);
            Arrays.fill(lanes, NONE);
        }

        void copyFrom(Train other) {
            yards = other.yards;
            girls = other.girls;
            place = other.place;
            fate = other.fate;
            sights = other.sights;
            laws = other.laws;
            inForce = other.inForce;
            System.arraycopy(other.heavy, 0, heavy, 0, MOST);
            System.arraycopy(other.mud, 0, mud, 0, MOST);
            System.arraycopy(other.strong, 0, strong, 0, MOST);
            System.arraycopy(other.tired, 0, tired, 0, MOST);
            System.arraycopy(other.holds, 0, holds, 0, MOST);
            System.arraycopy(other.lanes, 0, lanes, 0, PLACES * PLACES);
            System.arraycopy(other.sightYard, 0, sightYard, 0, SIGHTS);
            System.arraycopy(other.sightDip, 0, sightDip, 0, SIGHTS);
            System.arraycopy(other.terms, 0, terms, 0, terms.length);
            for (int i = 0; i < LAWS; i++) {
                lawTexts[i] = other.lawTexts[i];
            }
        }

        boolean hasYard(int yard) {
            return yard >= 0 && yard < yards;
        }

        boolean hasGirl(int girl) {
            return girl >= 0 && girl < girls;
        }

        boolean hasLaw(int law) {
            return law >= 0 && law < laws;
        }

        Text lawInForce() {
            return hasLaw(inForce) ? lawTexts[inForce] : null;
        }

        int holders(int yard) {
            int bits = 0;
            for (int g = 0; g < girls; g++) {
                if (holds[g] == yard) {
                    bits |= 1 << g;
                }
            }
            return bits;
        }

        int busyGirls() {
            int busy = 0;
            for (int g = 0; g < girls; g++) {
                if (holds[g] != NONE) {
                    busy++;
                }
            }
            return busy;
        }

        int stilesBetween(int one, int other) {
            return isPlace(one) && isPlace(other) ? lanes[one * PLACES + other] : NONE;
        }

        void layLane(int one, int other, int stiles) {
            if (isPlace(one) && isPlace(other)) {
                lanes[one * PLACES + other] = stiles;
                lanes[other * PLACES + one] = stiles;
            }
        }
    }

    /**
     * What stood ahead of each of the latest deeds, in a ring of rows: a new one takes the oldest
     * one's. A row has only what deeds change, as other calls that change it end what can be undone.
     */
    private static final class Steps {
        private static final int MUD = 0;
        private static final int TIRED = MUD + MOST;
        private static final int HOLDS = TIRED + MOST;
        private static final int PLACE = HOLDS + MOST;
        private static final int FATE = PLACE + 1;
        private static final int HOUR_WAS = FATE + 1;
        private static final int KIND = HOUR_WAS + 1;
        private static final int WIDTH = KIND + 1;

        private final int[] rows = new int[UNDOS * WIDTH];
        private int first;
        int size;

        Steps() {
        }

        void clear() {
            size = 0;
        }

        void keep(Train train, int kind) {
            int row = (first + size) % UNDOS * WIDTH;
            System.arraycopy(train.mud, 0, rows, row + MUD, MOST);
            System.arraycopy(train.tired, 0, rows, row + TIRED, MOST);
            System.arraycopy(train.holds, 0, rows, row + HOLDS, MOST);
            rows[row + PLACE] = train.place;
            rows[row + FATE] = train.fate;
            rows[row + HOUR_WAS] = train.terms[HOUR];
            rows[row + KIND] = kind;
            if (size < UNDOS) {
                size++;
            } else {
                first = (first + 1) % UNDOS;
            }
        }

        /** The kind of the deed that is undone. */
        int takeBack(Train train) {
            if (size == 0) {
                return CANNOT;
            }
            size--;
            int row = (first + size) % UNDOS * WIDTH;
            System.arraycopy(rows, row + MUD, train.mud, 0, MOST);
            System.arraycopy(rows, row + TIRED, train.tired, 0, MOST);
            System.arraycopy(rows, row + HOLDS, train.holds, 0, MOST);
            train.place = rows[row + PLACE];
            train.fate = rows[row + FATE];
            train.terms[HOUR] = rows[row + HOUR_WAS];
            return rows[row + KIND];
        }

        void copyFrom(Steps other) {
            first = other.first;
            size = other.size;
            System.arraycopy(other.rows, 0, rows, 0, rows.length);
        }
    }

    /** A text that was read: for each clause where the code of its sums and its test begins. */
    private static final class Text {
        int clauses;
        final int[] kind;
        final int[] first;
        final int[] second;
        final int[] test;
        final int[] times;
        int length;
        final int[] operations;
        final int[] operands;
        // Which yards' dips are asked, as bits: a dip is dear to find.
        int dips;

        Text() {
            kind = new int[CLAUSES];
            first = new int[CLAUSES];
            second = new int[CLAUSES];
            test = new int[CLAUSES];
            times = new int[CLAUSES];
            // Every operation has a byte of the tape of its own, each stop a clause's keyword.
            operations = new int[TAPE];
            operands = new int[TAPE];
        }

        Text(Text other) {
            clauses = other.clauses;
            kind = Arrays.copyOf(other.kind, clauses);
            first = Arrays.copyOf(other.first, clauses);
            second = Arrays.copyOf(other.second, clauses);
            test = Arrays.copyOf(other.test, clauses);
            times = Arrays.copyOf(other.times, clauses);
            length = other.length;
            operations = Arrays.copyOf(other.operations, length);
            operands = Arrays.copyOf(other.operands, length);
            dips = other.dips;
        }

        void clear() {
            clauses = 0;
            length = 0;
            dips = 0;
        }

        void emit(int operation, int operand) {
            if (length < operations.length) {
                operations[length] = operation;
                operands[length] = operand;
                length++;
            }
        }

        /** An order's dip of a yard, or tired of a girl. */
        void emitOf(boolean dip, int number) {
            if (dip) {
                dips |= 1 << number;
            }
            emit(WORD, (dip ? WORD_DIP : WORD_TIRED) + number);
        }

        /** An "and", an "or" goes on behind all that it may skip. */
        void aim(int skip) {
            if (skip >= 0 && skip < length) {
                operands[skip] = length;
            }
        }

        void addClause(int clauseKind) {
            if (clauses < CLAUSES) {
                kind[clauses] = clauseKind;
                first[clauses] = NONE;
                second[clauses] = NONE;
                test[clauses] = NONE;
                times[clauses] = 1;
                clauses++;
            }
        }
    }

    /** The tape, its tokens and both grammars. What reads answers false at the token that is the fault. */
    private static final class Reader {
        private static final String LAW_KINDS = "lifts tires brings bars ";
        private static final String ORDER_KINDS = "hold drop walk rest ";
        private static final String LAW_WORDS =
            "girl strong tired yard heavy mud dip stiles hour mood ";
        private static final String ORDER_WORDS = "hour done latest fate place dip tired ";
        private static final int MOST_NUMBER = 1000;
        private static final int MOST_TIMES = 20;

        // The ranks of operators, the weakest first: each is a chain of what the next one reads.
        private static final int TEST = 0;
        private static final int BOTH = 1;
        private static final int SUM = 2;
        private static final int TERM = 3;

        final int[] tape = new int[TAPE];
        int size;
        int fault = NONE;
        private int start;
        private int stop;
        private int parts;
        private boolean laws;
        // What was read last; a law is a copy of it.
        final Text text = new Text();

        Reader() {
        }

        void append(int four) {
            for (int shift = 24; shift >= 0 && size < TAPE; shift -= 8) {
                tape[size] = four >> shift & 255;
                size++;
            }
        }

        boolean readText(boolean asLaw) {
            text.clear();
            laws = asLaw;
            parts = 0;
            stop = 0;
            advance();
            boolean fine = true;
            boolean ended = false;
            for (int c = 0; c < CLAUSES && fine && !ended; c++) {
                fine = (laws ? lawClause(c) : orderClause(c)) && condition(c);
                ended = fine && start >= size;
                fine = fine && (ended || pass(";"));
            }
            fault = ended ? NONE : start;
            return ended;
        }

        private boolean lawClause(int clause) {
            int kind = wordHere(LAW_KINDS);
            if (kind == NONE) {
                return false;
            }
            text.addClause(kind);
            advance();
            return kind == BARS || firstSum(clause);
        }

        private boolean orderClause(int clause) {
            int kind = wordHere(ORDER_KINDS);
            if (kind == NONE) {
                return false;
            }
            text.addClause(kind);
            advance();
            if (kind != REST && !firstSum(clause)) {
                return false;
            }
            return (kind != HOLD || secondSum(clause)) && repetition(clause);
        }

        private boolean firstSum(int clause) {
            text.first[clause] = text.length;
            boolean fine = chain(SUM, 0);
            text.emit(STOP, 0);
            return fine;
        }

        private boolean secondSum(int clause) {
            text.second[clause] = text.length;
            boolean fine = pass("at") && chain(SUM, 0);
            text.emit(STOP, 0);
            return fine;
        }

        private boolean repetition(int clause) {
            if (!pass("times")) {
                return true;
            }
            int times = numberHere();
            if (times < 1 || times > MOST_TIMES) {
                return false;
            }
            text.times[clause] = times;
            advance();
            return true;
        }

        private boolean condition(int clause) {
            if (!pass("if")) {
                return true;
            }
            text.test[clause] = text.length;
            boolean fine = chain(TEST, 0);
            text.emit(STOP, 0);
            return fine;
        }

        private boolean chain(int rank, int depth) {
            // What stands behind an "or", an "and" may have to be skipped, so these come ahead of it.
            boolean skips = rank == TEST || rank == BOTH;
            int operation = NONE;
            int skip = NONE;
            for (int i = 0; i < TAPE; i++) {
                boolean fine = rank == BOTH ? plain(depth)
                    : rank == TERM ? part(depth) : chain(rank + 1, depth);
                if (skips) {
                    text.aim(skip);
                } else if (operation != NONE) {
                    text.emit(operation, 0);
                }
                operation = operatorHere(rank);
                if (!fine || operation == NONE) {
                    return fine;
                }
                skip = text.length;
                if (skips) {
                    text.emit(operation, 0);
                }
                advance();
            }
            return false;
        }

        private int operatorHere(int rank) {
            switch (rank) {
                case TEST:
                    return isHere("or") ? OR : NONE;
                case BOTH:
                    return isHere("and") ? AND : NONE;
                case SUM:
                    return isHere("+") ? ADD : isHere("-") ? SUBTRACT : NONE;
                default:
                    return isHere("*") ? MULTIPLY : isHere("/") ? DIVIDE : isHere("%") ? REMAIN : NONE;
            }
        }

        private boolean plain(int depth) {
            boolean turned = false;
            // Counted, not nested: nothing but the tape limits how many stand in a row.
            for (int i = 0; i < TAPE && pass("not"); i++) {
                turned = !turned;
            }
            boolean fine;
            if (isHere("(")) {
                fine = open(depth) && chain(TEST, depth + 1) && pass(")");
            } else {
                fine = chain(SUM, depth);
                int operation = isHere("<") ? LESS : isHere(">") ? MORE : EQUAL;
                fine = fine && (pass("<") || pass(">") || pass("=")) && chain(SUM, depth);
                text.emit(operation, 0);
            }
            if (turned) {
                text.emit(NOT, 0);
            }
            return fine;
        }

        private boolean part(int depth) {
            if (isHere("[")) {
                return open(depth) && chain(SUM, depth + 1) && pass("]");
            }
            return numberOrWord();
        }

        /** Past a bracket of either kind, if it is not within too many. */
        private boolean open(int depth) {
            if (depth >= BRACKETS) {
                return false;
            }
            advance();
            return true;
        }

        private boolean numberOrWord() {
            int number = numberHere();
            int word = wordHere(laws ? LAW_WORDS : ORDER_WORDS);
            if (number == NONE && word == NONE || number > MOST_NUMBER || parts >= PARTS) {
                return false;
            }
            parts++;
            advance();
            if (number != NONE) {
                text.emit(NUMBER, number);
            } else if (laws || word < WORD_DIP) {
                text.emit(WORD, word);
            } else {
                int whose = numberHere();
                if (whose < 0 || whose >= MOST) {
                    return false;
                }
                text.emitOf(word == WORD_DIP, whose);
                advance();
            }
            return true;
        }

        private void advance() {
            start = stop;
            while (start < size && tape[start] == ' ') {
                start++;
            }
            stop = start;
            while (stop < size && tape[stop] >= 'a' && tape[stop] <= 'z') {
                stop++;
            }
            if (stop > start) {
                return;
            }
            while (stop < size && tape[stop] >= '0' && tape[stop] <= '9') {
                stop++;
            }
            if (stop == start && start < size) {
                stop++;
            }
        }

        private boolean pass(String word) {
            if (!isHere(word)) {
                return false;
            }
            advance();
            return true;
        }

        private boolean isHere(String word) {
            if (stop - start != word.length()) {
                return false;
            }
            for (int i = 0; i < word.length(); i++) {
                if (tape[start + i] != word.charAt(i)) {
                    return false;
                }
            }
            return true;
        }

        /** Which of the words, each with a blank behind it, the token is. */
        private int wordHere(String words) {
            int index = 0;
            int length = 0;
            boolean same = true;
            for (int i = 0; i < words.length(); i++) {
                char sign = words.charAt(i);
                if (sign != ' ') {
                    same = same && start + length < stop && tape[start + length] == sign;
                    length++;
                } else if (same && length == stop - start) {
                    return index;
                } else {
                    index++;
                    length = 0;
                    same = true;
                }
            }
            return NONE;
        }

        /** The token's number, or some number above all that can be; NONE if it is none. */
        private int numberHere() {
            if (start >= stop || tape[start] < '0' || tape[start] > '9') {
                return NONE;
            }
            int number = 0;
            for (int i = start; i < stop && number <= MOST_NUMBER; i++) {
                number = number * 10 + tape[i] - '0';
            }
            return number;
        }
    }

    /** Asks the code of a text. */
    private static final class Sums {
        private final long[] stack = new long[PARTS + 1];

        Sums() {
        }

        /** A sum's value, 1 or 0 of a test, or BROKEN. */
        int ask(Text text, int from, int[] words) {
            int top = 0;
            for (int i = Math.max(0, from); i < text.length && text.operations[i] != STOP; i++) {
                int operation = text.operations[i];
                int operand = text.operands[i];
                if (operation == NUMBER || operation == WORD) {
                    boolean slot = operand >= 0 && operand < words.length;
                    if (top >= stack.length || operation == WORD && !slot) {
                        return BROKEN;
                    }
                    stack[top] = operation == NUMBER ? operand : words[operand];
                    top++;
                } else if (operation == NOT && top > 0) {
                    stack[top - 1] = 1 - stack[top - 1];
                } else if ((operation == AND || operation == OR) && top > 0) {
                    if (stack[top - 1] == (operation == OR ? 1 : 0)) {
                        i = Math.max(i, operand - 1);
                    } else {
                        top--;
                    }
                } else if (top > 1) {
                    long told = combined(operation, stack[top - 2], stack[top - 1]);
                    if (told > FARTHEST || told < -FARTHEST) {
                        return BROKEN;
                    }
                    top--;
                    stack[top - 1] = told;
                }
            }
            return top > 0 ? (int) stack[top - 1] : BROKEN;
        }

        private static long combined(int operation, long left, long right) {
            switch (operation) {
                case ADD:
                    return left + right;
                case SUBTRACT:
                    return left - right;
                case MULTIPLY:
                    return left * right;
                case DIVIDE:
                    return right == 0 ? TOO_FAR : left / right;
                case REMAIN:
                    return right == 0 ? TOO_FAR : left % right;
                case LESS:
                    return left < right ? 1 : 0;
                case MORE:
                    return left > right ? 1 : 0;
                default:
                    return left == right ? 1 : 0;
            }
        }
    }

    /** What the law in force tells of a train; what is told without one, else. */
    private static final class Rules {
        private final Sums sums = new Sums();
        private final int[] words = new int[LAW_WORD_COUNT];

        Rules() {
        }

        int lifts(Train train, int girl, int yard) {
            fillWords(train, girl, yard, NONE, NONE);
            int told = tell(train, LIFTS);
            if (told != BROKEN) {
                return within(told, MOST_LIFTED);
            }
            return train.hasGirl(girl) ? Math.max(0, train.strong[girl] - train.tired[girl]) : 0;
        }

        boolean bars(Train train, int girl, int yard) {
            fillWords(train, girl, yard, NONE, NONE);
            return tell(train, BARS) != BROKEN;
        }

        int tires(Train train, int girl, int yard, int stiles) {
            fillWords(train, girl, yard, NONE, stiles);
            int told = tell(train, TIRES);
            return within(told == BROKEN ? stiles + 1 : told, MOST_TIRING);
        }

        int brings(Train train, int yard, int dip) {
            if (dip <= 0) {
                return 0;
            }
            fillWords(train, NONE, yard, dip, NONE);
            int told = tell(train, BRINGS);
            return within(told == BROKEN ? dip : told, MOST_BROUGHT);
        }

        /** NONE without such a yard. */
        int dip(Train train, int yard) {
            if (!train.hasYard(yard)) {
                return NONE;
            }
            int dip = train.heavy[yard] + train.mud[yard];
            for (int g = 0; g < train.girls; g++) {
                if (train.holds[g] == yard) {
                    dip -= lifts(train, g, yard);
                }
            }
            return Math.max(0, dip);
        }

        /** What all dips bring. */
        int together(Train train) {
            int all = 0;
            for (int y = 0; y < train.yards; y++) {
                all += brings(train, y, dip(train, y));
            }
            return all;
        }

        // In the order of LAW_WORDS, by which the reader numbers them.
        private void fillWords(Train train, int girl, int yard, int dip, int stiles) {
            boolean isGirl = train.hasGirl(girl);
            boolean isYard = train.hasYard(yard);
            words[0] = girl;
            words[1] = isGirl ? train.strong[girl] : NONE;
            words[2] = isGirl ? train.tired[girl] : NONE;
            words[3] = yard;
            words[4] = isYard ? train.heavy[yard] : NONE;
            words[5] = isYard ? train.mud[yard] : NONE;
            words[6] = dip;
            words[7] = stiles;
            words[8] = train.terms[HOUR];
            words[9] = train.terms[MOOD];
        }

        /** What the last clause of a kind that holds tells (any number for a bar), else BROKEN. */
        private int tell(Train train, int kind) {
            Text law = train.lawInForce();
            if (law == null) {
                return BROKEN;
            }
            for (int c = law.clauses - 1; c >= 0; c--) {
                if (law.kind[c] == kind && (law.test[c] == NONE || sums.ask(law, law.test[c], words) == 1)) {
                    int told = kind == BARS ? 1 : sums.ask(law, law.first[c], words);
                    if (told != BROKEN) {
                        return told;
                    }
                }
            }
            return BROKEN;
        }
    }

    /** What is done with a train, by calls, by orders and on paper. */
    private static final class Deeds {
        private final Rules rules = new Rules();
        private final Sums sums = new Sums();
        private final int[] words = new int[ORDER_WORD_COUNT];
        private final int[] tiring = new int[MOST];
        private final int[] dips = new int[MOST];
        int stopped = NONE;

        Deeds() {
        }

        int takeHold(Train train, Steps steps, int girl, int yard) {
            if (!train.hasGirl(girl) || !train.hasYard(yard)) {
                return MISSING;
            }
            if (train.holds[girl] == yard || Integer.bitCount(train.holders(yard)) >= BY_TWOS
                || rules.bars(train, girl, yard)) {
                return CANNOT;
            }
            steps.keep(train, HOLD);
            train.holds[girl] = yard;
            return rules.dip(train, yard);
        }

        int letDrop(Train train, Steps steps, int girl) {
            if (!train.hasGirl(girl)) {
                return MISSING;
            }
            int yard = train.holds[girl];
            if (yard == NONE) {
                return CANNOT;
            }
            steps.keep(train, DROP);
            train.holds[girl] = NONE;
            return yard;
        }

        int walkTo(Train train, Steps steps, int place) {
            if (!isPlace(place)) {
                return BAD_NUMBER;
            }
            int stiles = train.stilesBetween(train.place, place);
            if (stiles == NONE) {
                return CANNOT;
            }
            steps.keep(train, WALK);
            // All is asked ahead of any change: a law may ask what the walk changes.
            int brought = 0;
            for (int y = 0; y < train.yards; y++) {
                dips[y] = rules.dip(train, y);
                brought += rules.brings(train, y, dips[y]);
            }
            for (int g = 0; g < train.girls; g++) {
                int yard = train.holds[g];
                tiring[g] = yard == NONE ? 0 : rules.tires(train, g, yard, stiles);
            }
            goThere(train, place, brought);
            return brought;
        }

        private void goThere(Train train, int place, int brought) {
            for (int y = 0; y < train.yards; y++) {
                if (dips[y] > 0) {
                    train.mud[y] = Math.min(MOST_MUD, train.mud[y] + 1);
                }
            }
            for (int g = 0; g < train.girls; g++) {
                train.tired[g] = Math.min(MOST_TIRED, train.tired[g] + tiring[g]);
            }
            train.fate = Math.min(MOST_FATE, train.fate + brought);
            train.place = place;
        }

        int restAll(Train train, Steps steps) {
            if (train.terms[HOUR] >= LAST_HOUR) {
                return CANNOT;
            }
            steps.keep(train, REST);
            for (int g = 0; g < train.girls; g++) {
                train.tired[g] = Math.max(0, train.tired[g] - 1);
            }
            train.terms[HOUR]++;
            return train.terms[HOUR];
        }

        /** How many were run; CANNOT, if one can't be: then the train is as far as they came. */
        int runText(Text text, Train train, Steps steps) {
            int done = 0;
            int latest = NONE;
            for (int c = 0; c < text.clauses; c++) {
                for (int i = 0; i < text.times[c]; i++) {
                    fillWords(train, text.dips, done, latest);
                    if (text.test[c] != NONE && sums.ask(text, text.test[c], words) != 1) {
                        continue;
                    }
                    int one = text.first[c] == NONE ? 0 : sums.ask(text, text.first[c], words);
                    int two = text.second[c] == NONE ? 0 : sums.ask(text, text.second[c], words);
                    int told = CANNOT;
                    if (one != BROKEN && two != BROKEN) {
                        switch (text.kind[c]) {
                            case HOLD:
                                told = takeHold(train, steps, one, two);
                                break;
                            case DROP:
                                told = letDrop(train, steps, one);
                                break;
                            case WALK:
                                told = walkTo(train, steps, one);
                                latest = told;
                                break;
                            default:
                                told = restAll(train, steps);
                                break;
                        }
                    }
                    if (told < 0) {
                        stopped = c;
                        return CANNOT;
                    }
                    done++;
                }
            }
            return done;
        }

        private void fillWords(Train train, int asked, int done, int latest) {
            words[WORD_HOUR] = train.terms[HOUR];
            words[WORD_DONE] = done;
            words[WORD_LATEST] = latest;
            words[WORD_FATE] = train.fate;
            words[WORD_PLACE] = train.place;
            for (int i = 0; i < MOST; i++) {
                if ((asked >> i & 1) != 0) {
                    words[WORD_DIP + i] = rules.dip(train, i);
                }
                words[WORD_TIRED + i] = train.hasGirl(i) ? train.tired[i] : NONE;
            }
        }

        void drawGenerations(Train train, Steps steps, int seed, int n) {
            int s = seed;
            for (int i = 0; i < n && train.terms[HOUR] < LAST_HOUR; i++) {
                s = drawAfter(s);
                int girl = train.girls > 0 ? s % train.girls : NONE;
                s = drawAfter(s);
                int yard = train.yards > 0 ? s % train.yards : NONE;
                s = drawAfter(s);
                int place = s % PLACES;
                s = drawAfter(s);
                int deed = s % 4;
                if (deed == HOLD) {
                    takeHold(train, steps, girl, yard);
                } else if (deed == DROP) {
                    letDrop(train, steps, girl);
                } else if (deed == WALK) {
                    walkTo(train, steps, place);
                }
                restAll(train, steps);
            }
        }

        private static int drawAfter(int s) {
            return (s * 1103 + 12345) % 1000003;
        }
    }

    /** BORNE: yard by yard from the last, the best for every set of girls who are still free. */
    private static final class Bearing {
        private static final int ALL_SETS = 1 << MOST;
        private static final int TWOS = 1 + MOST + MOST * (MOST - 1) / 2;
        // A worth is what is brought times this and the girls: the least is best in both.
        private static final int PER_BROUGHT = 16;
        private static final int BARRED = 1 << 20;

        // Sets of two girls at most, the lowest first.
        private final int[] sets = new int[TWOS];
        private final int[] worth = new int[MOST * TWOS];
        private final int[] best = new int[(MOST + 1) * ALL_SETS];
        private final int[] lifted = new int[MOST];
        private int everyone;
        final int[] chosen = new int[MOST];

        Bearing() {
            int found = 0;
            for (int set = 0; set < ALL_SETS && found < TWOS; set++) {
                if (Integer.bitCount(set) <= BY_TWOS) {
                    sets[found] = set;
                    found++;
                }
            }
        }

        int leastBrought() {
            return best[everyone] / PER_BROUGHT;
        }

        int fewestGirls() {
            return best[everyone] % PER_BROUGHT;
        }

        void solve(Train train, Rules rules) {
            everyone = (1 << train.girls) - 1;
            for (int free = 0; free <= everyone; free++) {
                best[train.yards * ALL_SETS + free] = 0;
            }
            for (int y = train.yards - 1; y >= 0; y--) {
                weigh(train, rules, y);
                for (int free = 0; free <= everyone; free++) {
                    best[y * ALL_SETS + free] = bestOf(y, free);
                }
            }
            int free = everyone;
            for (int y = 0; y < train.yards; y++) {
                chosen[y] = firstBest(y, free);
                free &= ~chosen[y];
            }
        }

        private void weigh(Train train, Rules rules, int yard) {
            int barred = 0;
            for (int g = 0; g < train.girls; g++) {
                lifted[g] = rules.lifts(train, g, yard);
                if (rules.bars(train, g, yard)) {
                    barred |= 1 << g;
                }
            }
            for (int k = 0; k < TWOS && sets[k] <= everyone; k++) {
                int dip = train.heavy[yard] + train.mud[yard];
                for (int g = 0; g < train.girls; g++) {
                    dip -= (sets[k] >> g & 1) * lifted[g];
                }
                worth[yard * TWOS + k] = (sets[k] & barred) != 0 ? BARRED
                    : rules.brings(train, yard, dip) * PER_BROUGHT + Integer.bitCount(sets[k]);
            }
        }

        private int bestOf(int yard, int free) {
            int least = BARRED;
            for (int k = 0; k < TWOS && sets[k] <= free; k++) {
                if ((sets[k] & ~free) == 0) {
                    least = Math.min(least, worthWith(yard, free, k));
                }
            }
            return least;
        }

        private int firstBest(int yard, int free) {
            for (int k = 0; k < TWOS && sets[k] <= free; k++) {
                if ((sets[k] & ~free) == 0 && worthWith(yard, free, k) == best[yard * ALL_SETS + free]) {
                    return sets[k];
                }
            }
            return 0;
        }

        private int worthWith(int yard, int free, int k) {
            return worth[yard * TWOS + k] + best[(yard + 1) * ALL_SETS + (free & ~sets[k])];
        }
    }

    /** Who may have let go, by how all would dip if she alone had. */
    private static final class Guess {
        private final int[] dips = new int[MOST * MOST];

        Guess() {
        }

        /** As bits; the train is one on paper. */
        int suspects(Train train, Rules rules) {
            int bits = 0;
            for (int g = 0; g < train.girls; g++) {
                int yard = train.holds[g];
                if (yard != NONE) {
                    train.holds[g] = NONE;
                    for (int y = 0; y < train.yards; y++) {
                        dips[g * MOST + y] = rules.dip(train, y);
                    }
                    train.holds[g] = yard;
                    bits |= isAsSeen(train, g) ? 1 << g : 0;
                }
            }
            return bits;
        }

        private boolean isAsSeen(Train train, int girl) {
            for (int i = 0; i < train.sights; i++) {
                if (dips[girl * MOST + train.sightYard[i]] != train.sightDip[i]) {
                    return false;
                }
            }
            return true;
        }

        int tellingYard(int suspects, int yards) {
            if (suspects == 0) {
                return NONE;
            }
            int telling = NONE;
            int fewest = MOST + 1;
            for (int y = 0; y < yards && y < MOST; y++) {
                int alike = mostAlike(suspects, y);
                if (alike < fewest) {
                    fewest = alike;
                    telling = y;
                }
            }
            return telling;
        }

        int mostAlike(int suspects, int yard) {
            int most = 0;
            for (int g = 0; g < MOST; g++) {
                int alike = 0;
                for (int h = 0; h < MOST; h++) {
                    boolean both = (suspects >> g & 1) != 0 && (suspects >> h & 1) != 0;
                    if (both && dips[g * MOST + yard] == dips[h * MOST + yard]) {
                        alike++;
                    }
                }
                most = Math.max(most, alike);
            }
            return most;
        }
    }

    /** Ways to one place from all others. */
    private static final class Ways {
        // A lane costs its stiles times this and one: fewest stiles, then fewest lanes.
        private static final int PER_STILE = 16;
        private static final int NO_WAY = 1 << 20;

        private final int[] cost = new int[PLACES];

        Ways() {
        }

        /** False if no way leads there from where the train is. */
        boolean measure(Train train, int place) {
            if (!isPlace(place)) {
                return false;
            }
            Arrays.fill(cost, NO_WAY);
            cost[place] = 0;
            // No way has more lanes than there are other places.
            for (int lanes = 1; lanes < PLACES; lanes++) {
                for (int from = 0; from < PLACES; from++) {
                    for (int to = 0; to < PLACES; to++) {
                        cost[from] = Math.min(cost[from], costBy(train, from, to));
                    }
                }
            }
            return cost[train.place] < NO_WAY;
        }

        int stilesFrom(int place) {
            return isPlace(place) ? cost[place] / PER_STILE : NONE;
        }

        /** The lowest place that a best way comes to next; NONE at its end. */
        int nextPlace(Train train, int from) {
            if (!isPlace(from) || cost[from] >= NO_WAY) {
                return NONE;
            }
            for (int to = 0; to < PLACES; to++) {
                if (costBy(train, from, to) == cost[from]) {
                    return to;
                }
            }
            return NONE;
        }

        private int costBy(Train train, int from, int to) {
            int stiles = train.stilesBetween(from, to);
            return stiles == NONE ? NO_WAY : Math.min(NO_WAY, cost[to] + stiles * PER_STILE + 1);
        }
    }
}
