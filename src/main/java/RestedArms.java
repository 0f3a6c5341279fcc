/** Arms that are pulled one at a time, by indices of restarts. README.md tells how to use it. */
public final class RestedArms {
    public static final int NONE = -1;

    private static final int ARMS = 4;
    private static final int STATES = 4;
    private static final int SLOTS = 16;
    private static final int EIGHTHS = 8;
    private static final int FIRST_CHANCE = 4;
    private static final int MAX_GIFT = 99;
    private static final int MAX_PLAY = 99;
    private static final int MAX_PULLS = 9999;
    private static final int MAX_SAVED = 6;
    private static final int MAX_LENGTH = 60;

    private static final int SETTINGS = 4;
    private static final int DISCOUNT = 0;
    private static final int ROUNDS = 1;
    private static final int COST = 2;
    private static final int RESTING = 3;
    private static final int[] LEAST_SETTING = {0, 1, 0, 0};
    private static final int[] GREATEST_SETTING = {99, 60, 99, 1};

    private static final int RULES = 3;
    private static final int BY_INDEX = 0;
    private static final int BY_GIFT = 1;

    private static final long THOUSAND = 1000L;
    private static final long FULL_WEIGHT = 1000000L;

    private final Board now;
    private final Board trial;
    private final History history;
    private final Indices indices;
    private final Text text;
    private final long[] scores;

    public RestedArms() {
        now = new Board();
        trial = new Board();
        history = new History();
        indices = new Indices();
        text = new Text();
        scores = new long[ARMS];
    }

    // ---- arms

    public int gift(int arm, int state, int gift) throws IndexOutOfBoundsException, IllegalArgumentException {
        needState(arm, state);
        if (!isWithin(gift, 0, MAX_GIFT)) {
            throw new IllegalArgumentException("a gift is 0 to 99");
        }
        history.keep(now);
        int slot = slotOf(arm, state);
        int previous = at(now.gifts, slot);
        store(now.gifts, slot, gift);
        indices.forgetArm(arm);
        return previous;
    }

    public int way(int arm, int state, int good, int bad, int chance)
            throws IndexOutOfBoundsException, IllegalArgumentException {
        needState(arm, state);
        needState(arm, good);
        needState(arm, bad);
        if (!isWithin(chance, 0, EIGHTHS)) {
            throw new IllegalArgumentException("a chance is 0 to 8");
        }
        history.keep(now);
        int slot = slotOf(arm, state);
        int previous = 100 * at(now.goods, slot) + 10 * at(now.bads, slot) + at(now.chances, slot);
        store(now.goods, slot, good);
        store(now.bads, slot, bad);
        store(now.chances, slot, chance);
        indices.forgetArm(arm);
        return previous;
    }

    public int put(int arm, int state) throws IndexOutOfBoundsException {
        needState(arm, state);
        history.keep(now);
        int previous = at(now.places, arm);
        store(now.places, arm, state);
        return previous;
    }

    public int set(int setting, int value) throws IndexOutOfBoundsException, IllegalArgumentException {
        needSetting(setting);
        if (!isWithin(value, at(LEAST_SETTING, setting), at(GREATEST_SETTING, setting))) {
            throw new IllegalArgumentException("the setting has no such value");
        }
        history.keep(now);
        int previous = at(now.settings, setting);
        store(now.settings, setting, value);
        indices.forgetAll();
        return previous;
    }

    // ---- pulls

    public int pull(int arm) throws IndexOutOfBoundsException, IllegalStateException {
        needArm(arm);
        if (now.allPulls() >= MAX_PULLS) {
            throw new IllegalStateException("9999 pulls were made");
        }
        history.keep(now);
        now.pullOnce(arm);
        return at(now.places, arm);
    }

    public int play(int rule, int pulls) throws IllegalArgumentException, IllegalStateException {
        needRule(rule);
        needPulls(pulls);
        if (now.allPulls() + pulls > MAX_PULLS) {
            throw new IllegalStateException("there would be more than 9999 pulls");
        }
        history.keep(now);
        // What pulls change is nothing that an index depends on, so once is enough.
        indices.refresh(now);
        int before = now.changes;
        playOn(now, rule, pulls);
        return now.changes - before;
    }

    public int begin(long chances) {
        history.keep(now);
        int previous = now.allPulls();
        now.beginAnew(chances);
        return previous;
    }

    // ---- texts

    public int append(int code) throws IllegalArgumentException, IllegalStateException {
        if (!isWithin(code, 33, 126)) {
            throw new IllegalArgumentException("a character code is 33 to 126");
        }
        if (text.length >= MAX_LENGTH) {
            throw new IllegalStateException("the buffer is full");
        }
        store(text.codes, text.length, code);
        text.length++;
        return text.length;
    }

    public int clearBuffer() {
        int previous = text.length;
        text.length = 0;
        return previous;
    }

    public int firstError() {
        return text.errorPlace();
    }

    public int read() throws IllegalArgumentException {
        if (!text.isWhole()) {
            throw new IllegalArgumentException("the buffer is not complete states as a text");
        }
        history.keep(now);
        int parts = text.moveInto(now);
        text.length = 0;
        indices.forgetAll();
        return parts;
    }

    public int undo() throws IllegalStateException {
        if (history.count == 0) {
            throw new IllegalStateException("no state is saved");
        }
        history.bringBack(now);
        indices.forgetAll();
        return history.count;
    }

    // ---- looks; nothing is changed

    public int stateOf(int arm, int state, int what) throws IndexOutOfBoundsException, IllegalArgumentException {
        needState(arm, state);
        int slot = slotOf(arm, state);
        switch (what) {
            case 0: return at(now.gifts, slot);
            case 1: return at(now.goods, slot);
            case 2: return at(now.bads, slot);
            case 3: return at(now.chances, slot);
            case 4: return reachedFrom(arm, state);
            default: throw new IllegalArgumentException("a state has the properties 0 to 4");
        }
    }

    public long index(int arm, int state) throws IndexOutOfBoundsException {
        needState(arm, state);
        indices.refresh(now);
        return at(indices.table, slotOf(arm, state));
    }

    public int arm(int arm, int what) throws IndexOutOfBoundsException, IllegalArgumentException {
        needArm(arm);
        switch (what) {
            case 0: return at(now.places, arm);
            case 1: return at(now.pulls, arm);
            case 2:
            case 3:
                indices.refresh(now);
                return what == 2 ? bestState(arm) : roundsNeeded(arm);
            default: throw new IllegalArgumentException("an arm has the properties 0 to 3");
        }
    }

    public int count(int what) throws IllegalArgumentException {
        switch (what) {
            case 0: return now.allPulls();
            case 1: return now.changes;
            case 2: return now.last;
            case 3: return history.count;
            default: throw new IllegalArgumentException("there are the numbers 0 to 3");
        }
    }

    public long sum(int what) throws IllegalArgumentException {
        switch (what) {
            case 0: return now.brought;
            case 1: return now.weight;
            case 2: return now.row;
            default: throw new IllegalArgumentException("there are the sums 0 to 2");
        }
    }

    public int setting(int setting) throws IndexOutOfBoundsException {
        needSetting(setting);
        return at(now.settings, setting);
    }

    // ---- what would be; nothing is changed

    public int choice(int rule) throws IllegalArgumentException {
        needRule(rule);
        indices.refresh(now);
        return chosenBy(now, rule);
    }

    public long ifPlayed(int rule, int pulls) throws IllegalArgumentException {
        needRule(rule);
        needPulls(pulls);
        return gain(rule, pulls);
    }

    public int bestRule(int pulls) throws IllegalArgumentException {
        needPulls(pulls);
        int best = 0;
        long greatest = gain(best, pulls);
        for (int rule = 1; rule < RULES; rule++) {
            long gain = gain(rule, pulls);
            if (gain > greatest) {
                greatest = gain;
                best = rule;
            }
        }
        return best;
    }

    public int giftFor(int arm, int state) throws IndexOutOfBoundsException {
        needState(arm, state);
        indices.refresh(now);
        trial.copy(now);
        scoreAll(trial, BY_INDEX);
        // A greater gift never makes an index less, so the gifts that do lie above all that don't:
        // halving finds the border, and 7 halvings are enough for 0 to 100.
        int low = 0;
        int high = MAX_GIFT + 1;
        for (int halving = 0; halving < 7 && low < high; halving++) {
            int middle = (low + high) / 2;
            if (wouldChoose(arm, state, middle)) {
                high = middle;
            } else {
                low = middle + 1;
            }
        }
        return high > MAX_GIFT ? NONE : high;
    }

    public double evenness() {
        int least = at(now.pulls, 0);
        int greatest = least;
        for (int arm = 1; arm < ARMS; arm++) {
            least = Math.min(least, at(now.pulls, arm));
            greatest = Math.max(greatest, at(now.pulls, arm));
        }
        return greatest == 0 ? 1.0 : (double) least / greatest;
    }

    public long digest() {
        long hash = 2843L;
        for (int what = 0; what <= 3; what++) {
            hash = 31L * hash + count(what);
        }
        for (int what = 0; what <= 2; what++) {
            hash = 31L * hash + sum(what);
        }
        for (int setting = 0; setting < SETTINGS; setting++) {
            hash = 31L * hash + setting(setting);
        }
        for (int arm = 0; arm < ARMS; arm++) {
            hash = hashOfArm(hash, arm);
        }
        for (int rule = 0; rule < RULES; rule++) {
            hash = 31L * hash + choice(rule);
            hash = 31L * hash + ifPlayed(rule, 5);
        }
        hash = 31L * hash + bestRule(8);
        hash = 31L * hash + giftFor(1, 0);
        hash = 31L * hash + bitsOf(evenness());
        hash = 31L * hash + text.length;
        for (int place = 0; place < text.length; place++) {
            hash = 31L * hash + at(text.codes, place);
        }
        return hash;
    }

    private long hashOfArm(long before, int arm) {
        long hash = before;
        for (int what = 0; what <= 3; what++) {
            hash = 31L * hash + arm(arm, what);
        }
        for (int state = 0; state < STATES; state++) {
            for (int what = 0; what <= 4; what++) {
                hash = 31L * hash + stateOf(arm, state, what);
            }
            hash = 31L * hash + index(arm, state);
        }
        return hash;
    }

    /** The bits of a share from 0.0 to 1.0 that is no tiny one. */
    private static long bitsOf(double share) {
        if (share <= 0.0) {
            return 0L;
        }
        // LANGUAGE.md leaves no library call for this; doubling is exact, so no bit is lost.
        double fraction = share;
        long exponent = 1023L;
        for (int step = 0; step < 1000 && fraction < 1.0; step++) {
            fraction = fraction * 2.0;
            exponent--;
        }
        return (exponent << 52) + (long) ((fraction - 1.0) * 4503599627370496.0);
    }

    private static void needArm(int arm) {
        if (!isWithin(arm, 0, ARMS - 1)) {
            throw new IndexOutOfBoundsException("there is no such arm");
        }
    }

    private static void needState(int arm, int state) {
        if (!isWithin(arm, 0, ARMS - 1) || !isWithin(state, 0, STATES - 1)) {
            throw new IndexOutOfBoundsException("there is no such arm or state");
        }
    }

    private static void needSetting(int setting) {
        if (!isWithin(setting, 0, SETTINGS - 1)) {
            throw new IndexOutOfBoundsException("there is no such setting");
        }
    }

    private static void needRule(int rule) {
        if (!isWithin(rule, 0, RULES - 1)) {
            throw new IllegalArgumentException("a rule is 0 to 2");
        }
    }

    private static void needPulls(int pulls) {
        if (!isWithin(pulls, 1, MAX_PLAY)) {
            throw new IllegalArgumentException("the pulls are 1 to 99");
        }
    }

    private static boolean isWithin(int value, int least, int greatest) {
        return value >= least && value <= greatest;
    }

    private static int slotOf(int arm, int state) {
        return arm * STATES + state;
    }

    private static int at(int[] row, int place) {
        return place >= 0 && place < row.length ? row[place] : 0;
    }

    private static long at(long[] row, int place) {
        return place >= 0 && place < row.length ? row[place] : 0L;
    }

    private static void store(int[] row, int place, int value) {
        if (place >= 0 && place < row.length) {
            row[place] = value;
        }
    }

    private static void store(long[] row, int place, long value) {
        if (place >= 0 && place < row.length) {
            row[place] = value;
        }
    }

    private int reachedFrom(int arm, int state) {
        int mask = 1 << state;
        // A way without a state twice has at most 3 steps.
        for (int step = 1; step < STATES; step++) {
            for (int from = 0; from < STATES; from++) {
                if ((mask & (1 << from)) != 0) {
                    mask |= nextOf(slotOf(arm, from));
                }
            }
        }
        return mask;
    }

    private int nextOf(int slot) {
        int chance = at(now.chances, slot);
        int good = chance > 0 ? 1 << at(now.goods, slot) : 0;
        int bad = chance < EIGHTHS ? 1 << at(now.bads, slot) : 0;
        return good | bad;
    }

    private int bestState(int arm) {
        int best = 0;
        for (int state = 1; state < STATES; state++) {
            if (at(indices.table, slotOf(arm, state)) > at(indices.table, slotOf(arm, best))) {
                best = state;
            }
        }
        return best;
    }

    private int roundsNeeded(int arm) {
        int state = at(now.places, arm);
        return indices.leastRounds(now, arm, state, at(indices.table, slotOf(arm, state)));
    }

    private void playOn(Board board, int rule, int pulls) {
        for (int pull = 0; pull < pulls; pull++) {
            board.pullOnce(chosenBy(board, rule));
        }
    }

    private long gain(int rule, int pulls) {
        indices.refresh(now);
        trial.copy(now);
        playOn(trial, rule, pulls);
        return trial.brought - now.brought;
    }

    private int chosenBy(Board board, int rule) {
        if (rule == BY_INDEX || rule == BY_GIFT) {
            scoreAll(board, rule);
            return greatestScore(board.last);
        }
        return board.last == NONE ? 0 : (board.last + 1) % ARMS;
    }

    private void scoreAll(Board board, int rule) {
        for (int arm = 0; arm < ARMS; arm++) {
            int slot = slotOf(arm, at(board.places, arm));
            long worth = rule == BY_INDEX ? at(indices.table, slot) : at(board.gifts, slot);
            store(scores, arm, worth - board.costOf(arm, rule));
        }
    }

    private int greatestScore(int last) {
        // Beginning with the arm that was pulled last lets it stay ahead of all that are only equal.
        int best = isWithin(last, 0, ARMS - 1) ? last : 0;
        for (int arm = 0; arm < ARMS; arm++) {
            if (at(scores, arm) > at(scores, best)) {
                best = arm;
            }
        }
        return best;
    }

    private boolean wouldChoose(int arm, int state, int gift) {
        store(trial.gifts, slotOf(arm, state), gift);
        long score = indices.find(trial, arm, state) - trial.costOf(arm, BY_INDEX);
        store(scores, arm, score);
        return greatestScore(trial.last) == arm;
    }

    /** All that a saved state has. */
    private static final class Board {
        final int[] gifts;
        final int[] goods;
        final int[] bads;
        final int[] chances;
        final int[] places;
        final int[] pulls;
        final int[] settings;
        int changes;
        int last;
        long brought;
        long weight;
        long row;

        Board() {
            gifts = new int[SLOTS];
            goods = new int[SLOTS];
            bads = new int[SLOTS];
            chances = new int[SLOTS];
            places = new int[ARMS];
            pulls = new int[ARMS];
            settings = new int[SETTINGS];
            for (int slot = 0; slot < SLOTS; slot++) {
                goods[slot] = slot % STATES;
                bads[slot] = slot % STATES;
                chances[slot] = FIRST_CHANCE;
            }
            settings[DISCOUNT] = 90;
            settings[ROUNDS] = 20;
            last = NONE;
            weight = FULL_WEIGHT;
            row = 1L;
        }

        void copy(Board other) {
            System.arraycopy(other.gifts, 0, gifts, 0, SLOTS);
            System.arraycopy(other.goods, 0, goods, 0, SLOTS);
            System.arraycopy(other.bads, 0, bads, 0, SLOTS);
            System.arraycopy(other.chances, 0, chances, 0, SLOTS);
            System.arraycopy(other.places, 0, places, 0, ARMS);
            System.arraycopy(other.pulls, 0, pulls, 0, ARMS);
            System.arraycopy(other.settings, 0, settings, 0, SETTINGS);
            changes = other.changes;
            last = other.last;
            brought = other.brought;
            weight = other.weight;
            row = other.row;
        }

        void beginAnew(long chancesFrom) {
            for (int arm = 0; arm < ARMS; arm++) {
                store(places, arm, 0);
                store(pulls, arm, 0);
            }
            changes = 0;
            last = NONE;
            brought = 0L;
            weight = FULL_WEIGHT;
            row = chancesFrom;
        }

        int allPulls() {
            int all = 0;
            for (int arm = 0; arm < ARMS; arm++) {
                all += at(pulls, arm);
            }
            return all;
        }

        boolean wouldChange(int arm) {
            return last != NONE && last != arm;
        }

        /** What counts less, by a rule, in the measure of that rule. */
        long costOf(int arm, int rule) {
            if (!wouldChange(arm)) {
                return 0L;
            }
            long cost = at(settings, COST);
            return rule == BY_INDEX ? 10L * cost * (100 - at(settings, DISCOUNT)) : cost;
        }

        void pullOnce(int arm) {
            long worth = THOUSAND * at(gifts, slotOf(arm, at(places, arm)));
            if (wouldChange(arm)) {
                worth -= THOUSAND * at(settings, COST);
                changes++;
            }
            brought += Math.floorDiv(worth * weight, FULL_WEIGHT);
            weight = Math.floorDiv(weight * at(settings, DISCOUNT), 100L);
            last = arm;
            store(pulls, arm, at(pulls, arm) + 1);
            goOn(arm);
            if (at(settings, RESTING) == 1) {
                for (int other = 0; other < ARMS; other++) {
                    if (other != arm) {
                        goOn(other);
                    }
                }
            }
        }

        private void goOn(int arm) {
            row = row * 6364136223846793005L + 1442695040888963407L;
            int drawn = (int) (row >>> 61);
            int slot = slotOf(arm, at(places, arm));
            store(places, arm, drawn < at(chances, slot) ? at(goods, slot) : at(bads, slot));
        }
    }

    /** The saved states, in boards that are used again. */
    private static final class History {
        final Board[] saved;
        int count;

        History() {
            saved = new Board[MAX_SAVED];
            for (int place = 0; place < saved.length; place++) {
                saved[place] = new Board();
            }
        }

        void keep(Board board) {
            if (count >= saved.length) {
                moveOldestBehind();
                count--;
            }
            Board free = boardAt(count);
            if (free != null) {
                free.copy(board);
                count++;
            }
        }

        void bringBack(Board board) {
            Board latest = boardAt(count - 1);
            if (latest != null) {
                board.copy(latest);
                count--;
            }
        }

        private void moveOldestBehind() {
            for (int place = 1; place < saved.length; place++) {
                Board older = saved[place - 1];
                saved[place - 1] = saved[place];
                saved[place] = older;
            }
        }

        private Board boardAt(int place) {
            return place >= 0 && place < saved.length ? saved[place] : null;
        }
    }

    /** The indices of all states; an arm's are found again only when something changed them. */
    private static final class Indices {
        final long[] table;
        final boolean[] fresh;
        final long[] values;
        final long[] own;

        Indices() {
            table = new long[SLOTS];
            fresh = new boolean[ARMS];
            values = new long[STATES];
            own = new long[STATES];
        }

        void forgetArm(int arm) {
            if (arm >= 0 && arm < fresh.length) {
                fresh[arm] = false;
            }
        }

        void forgetAll() {
            for (int arm = 0; arm < fresh.length; arm++) {
                fresh[arm] = false;
            }
        }

        void refresh(Board board) {
            for (int arm = 0; arm < fresh.length; arm++) {
                if (!fresh[arm]) {
                    for (int state = 0; state < STATES; state++) {
                        store(table, slotOf(arm, state), find(board, arm, state));
                    }
                    fresh[arm] = true;
                }
            }
        }

        long find(Board board, int arm, int state) {
            int rounds = at(board.settings, ROUNDS);
            clearValues();
            for (int round = 0; round < rounds; round++) {
                turn(board, arm, state);
            }
            return indexNow(board, state);
        }

        int leastRounds(Board board, int arm, int state, long due) {
            int rounds = at(board.settings, ROUNDS);
            clearValues();
            for (int round = 1; round < rounds; round++) {
                turn(board, arm, state);
                if (indexNow(board, state) == due) {
                    return round;
                }
            }
            return rounds;
        }

        private void clearValues() {
            for (int state = 0; state < values.length; state++) {
                values[state] = 0L;
            }
        }

        private void turn(Board board, int arm, int home) {
            long discount = at(board.settings, DISCOUNT);
            for (int state = 0; state < STATES; state++) {
                int slot = slotOf(arm, state);
                long chance = at(board.chances, slot);
                long good = at(values, at(board.goods, slot));
                long bad = at(values, at(board.bads, slot));
                long expectation = Math.floorDiv(chance * good + (EIGHTHS - chance) * bad, (long) EIGHTHS);
                long later = Math.floorDiv(discount * expectation, 100L);
                store(own, state, THOUSAND * at(board.gifts, slot) + later);
            }
            long anew = at(own, home);
            for (int state = 0; state < STATES; state++) {
                store(values, state, Math.max(at(own, state), anew));
            }
        }

        private long indexNow(Board board, int state) {
            return Math.floorDiv((100L - at(board.settings, DISCOUNT)) * at(values, state), 100L);
        }
    }

    /** The buffer, read character by character; a stage is named by what was read last. */
    private static final class Text {
        static final int WRONG = -1;
        static final int START = 0;
        static final int ARM = 1;
        static final int STATE = 2;
        static final int EQUAL = 3;
        static final int GIFT_OPEN = 4;
        static final int GIFT_WHOLE = 5;
        static final int ARROW = 6;
        static final int GOOD = 7;
        static final int BAD = 8;
        static final int CHANCE = 9;

        final int[] codes;
        int length;

        Text() {
            codes = new int[MAX_LENGTH];
        }

        int errorPlace() {
            int stage = START;
            for (int place = 0; place < length; place++) {
                stage = nextStage(stage, at(codes, place));
                if (stage == WRONG) {
                    return place;
                }
            }
            return length;
        }

        boolean isWhole() {
            int stage = START;
            for (int place = 0; place < length; place++) {
                stage = nextStage(stage, at(codes, place));
            }
            return stage == GIFT_OPEN || stage == GIFT_WHOLE || stage == CHANCE;
        }

        /** Only for a whole text: what is read is stored at once, since nothing can go wrong behind it. */
        int moveInto(Board board) {
            int parts = 1;
            int arm = 0;
            int slot = 0;
            int stage = START;
            for (int place = 0; place < length; place++) {
                int code = at(codes, place);
                stage = nextStage(stage, code);
                switch (stage) {
                    case START: parts++; break;
                    case ARM: arm = code - '0'; break;
                    case STATE: slot = slotOf(arm, code - 'a'); break;
                    case EQUAL: store(board.gifts, slot, 0); break;
                    case GIFT_OPEN:
                    case GIFT_WHOLE: store(board.gifts, slot, 10 * at(board.gifts, slot) + code - '0'); break;
                    case GOOD: store(board.goods, slot, code - 'a'); break;
                    case BAD: store(board.bads, slot, code - 'a'); break;
                    case CHANCE: store(board.chances, slot, code - '0'); break;
                    default: break;
                }
            }
            return parts;
        }

        private static int nextStage(int stage, int code) {
            switch (stage) {
                case START: return isWithin(code, '0', '3') ? ARM : WRONG;
                case ARM: return isStateLetter(code) ? STATE : WRONG;
                case STATE: return code == '=' ? EQUAL : WRONG;
                case EQUAL: return firstDigit(code);
                case GIFT_OPEN: return isWithin(code, '0', '9') ? GIFT_WHOLE : behindGift(code);
                case GIFT_WHOLE: return behindGift(code);
                case ARROW: return isStateLetter(code) ? GOOD : WRONG;
                case GOOD: return isStateLetter(code) ? BAD : WRONG;
                case BAD: return isWithin(code, '0', '8') ? CHANCE : WRONG;
                case CHANCE: return code == ';' ? START : WRONG;
                default: return WRONG;
            }
        }

        private static boolean isStateLetter(int code) {
            return isWithin(code, 'a', 'd');
        }

        private static int firstDigit(int code) {
            if (code == '0') {
                return GIFT_WHOLE;
            }
            return isWithin(code, '1', '9') ? GIFT_OPEN : WRONG;
        }

        private static int behindGift(int code) {
            if (code == ';') {
                return START;
            }
            return code == '>' ? ARROW : WRONG;
        }
    }
}
