import java.util.ArrayDeque;
import java.util.regex.Matcher;
import java.util.regex.Pattern;

/**
 * The document word for word, without any shortcut: the oracle that RandomRunsTest compares with.
 * It keeps nothing that it could find anew, seeks gifts one by one, and reads texts by a pattern.
 */
final class ReferenceArms implements Cloneable {
    private static final String PART = "[0-3][a-d]=(0|[1-9][0-9]?)(>[a-d][a-d][0-8])?";
    private static final Pattern STATES_AS_A_TEXT = Pattern.compile(PART + "(;" + PART + ")*");

    private int[][] gifts = new int[4][4];
    private int[][] goods = {{0, 1, 2, 3}, {0, 1, 2, 3}, {0, 1, 2, 3}, {0, 1, 2, 3}};
    private int[][] bads = {{0, 1, 2, 3}, {0, 1, 2, 3}, {0, 1, 2, 3}, {0, 1, 2, 3}};
    private int[][] chances = {{4, 4, 4, 4}, {4, 4, 4, 4}, {4, 4, 4, 4}, {4, 4, 4, 4}};
    private int[] states = new int[4];
    private int[] pulled = new int[4];
    private int[] settings = {90, 20, 0, 0};
    private int pulls = 0;
    private int changes = 0;
    private int last = -1;
    private long brought = 0;
    private long weight = 1000000;
    private long x = 1;
    private String buffer = "";
    private ArrayDeque<ReferenceArms> saved = new ArrayDeque<>();

    private ReferenceArms twin() {
        try {
            ReferenceArms twin = (ReferenceArms) clone();
            twin.gifts = deep(gifts);
            twin.goods = deep(goods);
            twin.bads = deep(bads);
            twin.chances = deep(chances);
            twin.states = states.clone();
            twin.pulled = pulled.clone();
            twin.settings = settings.clone();
            twin.saved = new ArrayDeque<>();
            return twin;
        } catch (CloneNotSupportedException e) {
            throw new AssertionError(e);
        }
    }

    private static int[][] deep(int[][] rows) {
        int[][] copy = new int[rows.length][];
        for (int i = 0; i < rows.length; i++) {
            copy[i] = rows[i].clone();
        }
        return copy;
    }

    private void save() {
        saved.addLast(twin());
        if (saved.size() > 6) {
            saved.removeFirst();
        }
    }

    private static void bounds(boolean holds) {
        if (!holds) {
            throw new IndexOutOfBoundsException();
        }
    }

    private static void argument(boolean holds) {
        if (!holds) {
            throw new IllegalArgumentException();
        }
    }

    private static void state(boolean holds) {
        if (!holds) {
            throw new IllegalStateException();
        }
    }

    private static boolean four(int number) {
        return 0 <= number && number < 4;
    }

    int gift(int arm, int state, int gift) {
        bounds(four(arm) && four(state));
        argument(0 <= gift && gift <= 99);
        save();
        int before = gifts[arm][state];
        gifts[arm][state] = gift;
        return before;
    }

    int way(int arm, int state, int good, int bad, int chance) {
        bounds(four(arm) && four(state) && four(good) && four(bad));
        argument(0 <= chance && chance <= 8);
        save();
        int before = 100 * goods[arm][state] + 10 * bads[arm][state] + chances[arm][state];
        goods[arm][state] = good;
        bads[arm][state] = bad;
        chances[arm][state] = chance;
        return before;
    }

    int put(int arm, int state) {
        bounds(four(arm) && four(state));
        save();
        int before = states[arm];
        states[arm] = state;
        return before;
    }

    int set(int setting, int value) {
        bounds(four(setting));
        int least = setting == 1 ? 1 : 0;
        int greatest = setting == 1 ? 60 : setting == 3 ? 1 : 99;
        argument(least <= value && value <= greatest);
        save();
        int before = settings[setting];
        settings[setting] = value;
        return before;
    }

    int pull(int arm) {
        bounds(four(arm));
        state(pulls < 9999);
        save();
        pullOnce(arm);
        return states[arm];
    }

    private void pullOnce(int arm) {
        long brings = 1000L * gifts[arm][states[arm]];
        if (last != -1 && last != arm) {
            brings -= 1000L * settings[2];
            changes++;
        }
        brought += Math.floorDiv(brings * weight, 1000000L);
        weight = Math.floorDiv(weight * settings[0], 100L);
        pulls++;
        pulled[arm]++;
        last = arm;
        goOn(arm);
        for (int other = 0; other < 4; other++) {
            if (settings[3] == 1 && other != arm) {
                goOn(other);
            }
        }
    }

    private void goOn(int arm) {
        x = x * 6364136223846793005L + 1442695040888963407L;
        int drawn = (int) (x >>> 61);
        int from = states[arm];
        states[arm] = drawn < chances[arm][from] ? goods[arm][from] : bads[arm][from];
    }

    int play(int rule, int number) {
        argument(0 <= rule && rule <= 2 && 1 <= number && number <= 99);
        state(pulls + number <= 9999);
        save();
        int before = changes;
        for (int i = 0; i < number; i++) {
            pullOnce(choice(rule));
        }
        return changes - before;
    }

    int begin(long chancesFrom) {
        save();
        int before = pulls;
        states = new int[4];
        pulled = new int[4];
        pulls = 0;
        changes = 0;
        last = -1;
        brought = 0;
        weight = 1000000;
        x = chancesFrom;
        return before;
    }

    int append(int code) {
        argument(33 <= code && code <= 126);
        state(buffer.length() < 60);
        buffer += (char) code;
        return buffer.length();
    }

    int clearBuffer() {
        int before = buffer.length();
        buffer = "";
        return before;
    }

    int firstError() {
        for (int i = 0; i < buffer.length(); i++) {
            Matcher matcher = STATES_AS_A_TEXT.matcher(buffer.substring(0, i + 1));
            if (!matcher.matches() && !matcher.hitEnd()) {
                return i;
            }
        }
        return buffer.length();
    }

    int read() {
        argument(STATES_AS_A_TEXT.matcher(buffer).matches());
        save();
        String[] parts = buffer.split(";");
        for (String part : parts) {
            int arm = part.charAt(0) - '0';
            int state = part.charAt(1) - 'a';
            int arrow = part.indexOf('>');
            gifts[arm][state] = Integer.parseInt(part.substring(3, arrow < 0 ? part.length() : arrow));
            if (arrow >= 0) {
                goods[arm][state] = part.charAt(arrow + 1) - 'a';
                bads[arm][state] = part.charAt(arrow + 2) - 'a';
                chances[arm][state] = part.charAt(arrow + 3) - '0';
            }
        }
        buffer = "";
        return parts.length;
    }

    int undo() {
        state(!saved.isEmpty());
        ReferenceArms before = saved.removeLast().twin();
        gifts = before.gifts;
        goods = before.goods;
        bads = before.bads;
        chances = before.chances;
        states = before.states;
        pulled = before.pulled;
        settings = before.settings;
        pulls = before.pulls;
        changes = before.changes;
        last = before.last;
        brought = before.brought;
        weight = before.weight;
        x = before.x;
        return saved.size();
    }

    int stateOf(int arm, int state, int what) {
        bounds(four(arm) && four(state));
        argument(0 <= what && what <= 4);
        if (what == 4) {
            return reach(arm, state, 0);
        }
        int[][][] rows = {gifts, goods, bads, chances};
        return rows[what][arm][state];
    }

    private int reach(int arm, int state, int seen) {
        if ((seen >> state & 1) == 1) {
            return seen;
        }
        int mask = seen | 1 << state;
        if (chances[arm][state] != 0) {
            mask = reach(arm, goods[arm][state], mask);
        }
        if (chances[arm][state] != 8) {
            mask = reach(arm, bads[arm][state], mask);
        }
        return mask;
    }

    long index(int arm, int state) {
        bounds(four(arm) && four(state));
        return indexBehind(arm, state, settings[1]);
    }

    private long indexBehind(int arm, int state, int rounds) {
        long[] values = new long[4];
        for (int round = 0; round < rounds; round++) {
            long[] own = new long[4];
            for (int t = 0; t < 4; t++) {
                int chance = chances[arm][t];
                long expectation = Math.floorDiv(
                        chance * values[goods[arm][t]] + (8 - chance) * values[bads[arm][t]], 8L);
                own[t] = 1000L * gifts[arm][t] + Math.floorDiv(settings[0] * expectation, 100L);
            }
            for (int t = 0; t < 4; t++) {
                values[t] = Math.max(own[t], own[state]);
            }
        }
        return Math.floorDiv((100 - settings[0]) * values[state], 100L);
    }

    int arm(int arm, int what) {
        bounds(four(arm));
        argument(0 <= what && what <= 3);
        if (what == 0) {
            return states[arm];
        }
        if (what == 1) {
            return pulled[arm];
        }
        if (what == 2) {
            int best = 0;
            for (int state = 0; state < 4; state++) {
                best = index(arm, state) > index(arm, best) ? state : best;
            }
            return best;
        }
        int rounds = 1;
        while (indexBehind(arm, states[arm], rounds) != index(arm, states[arm])) {
            rounds++;
        }
        return rounds;
    }

    int count(int what) {
        argument(0 <= what && what <= 3);
        return new int[] {pulls, changes, last, saved.size()}[what];
    }

    long sum(int what) {
        argument(0 <= what && what <= 2);
        return new long[] {brought, weight, x}[what];
    }

    int setting(int setting) {
        bounds(four(setting));
        return settings[setting];
    }

    int choice(int rule) {
        argument(0 <= rule && rule <= 2);
        if (rule == 2) {
            return last == -1 ? 0 : last == 3 ? 0 : last + 1;
        }
        long[] worth = new long[4];
        for (int arm = 0; arm < 4; arm++) {
            boolean other = last != -1 && arm != last;
            if (rule == 0) {
                worth[arm] = index(arm, states[arm]) - (other ? 10L * settings[2] * (100 - settings[0]) : 0);
            } else {
                worth[arm] = gifts[arm][states[arm]] - (other ? settings[2] : 0);
            }
        }
        long greatest = Math.max(Math.max(worth[0], worth[1]), Math.max(worth[2], worth[3]));
        if (last != -1 && worth[last] == greatest) {
            return last;
        }
        int lowest = 0;
        while (worth[lowest] != greatest) {
            lowest++;
        }
        return lowest;
    }

    long ifPlayed(int rule, int number) {
        argument(0 <= rule && rule <= 2 && 1 <= number && number <= 99);
        ReferenceArms twin = twin();
        for (int i = 0; i < number; i++) {
            twin.pullOnce(twin.choice(rule));
        }
        return twin.brought - brought;
    }

    int bestRule(int number) {
        argument(1 <= number && number <= 99);
        long greatest = Math.max(ifPlayed(0, number), Math.max(ifPlayed(1, number), ifPlayed(2, number)));
        return ifPlayed(0, number) == greatest ? 0 : ifPlayed(1, number) == greatest ? 1 : 2;
    }

    int giftFor(int arm, int state) {
        bounds(four(arm) && four(state));
        ReferenceArms twin = twin();
        twin.states[arm] = state;
        for (int gift = 0; gift <= 99; gift++) {
            twin.gifts[arm][state] = gift;
            if (twin.choice(0) == arm) {
                return gift;
            }
        }
        return -1;
    }

    double evenness() {
        int least = Math.min(Math.min(pulled[0], pulled[1]), Math.min(pulled[2], pulled[3]));
        int greatest = Math.max(Math.max(pulled[0], pulled[1]), Math.max(pulled[2], pulled[3]));
        return pulls == 0 ? 1.0 : (double) least / greatest;
    }

    long digest() {
        long hash = 2843;
        for (int what = 0; what < 4; what++) {
            hash = 31 * hash + count(what);
        }
        for (int what = 0; what < 3; what++) {
            hash = 31 * hash + sum(what);
        }
        for (int setting = 0; setting < 4; setting++) {
            hash = 31 * hash + setting(setting);
        }
        for (int arm = 0; arm < 4; arm++) {
            for (int what = 0; what < 4; what++) {
                hash = 31 * hash + arm(arm, what);
            }
            for (int state = 0; state < 4; state++) {
                for (int what = 0; what < 5; what++) {
                    hash = 31 * hash + stateOf(arm, state, what);
                }
                hash = 31 * hash + index(arm, state);
            }
        }
        for (int rule = 0; rule < 3; rule++) {
            hash = 31 * hash + choice(rule);
            hash = 31 * hash + ifPlayed(rule, 5);
        }
        hash = 31 * hash + bestRule(8);
        hash = 31 * hash + giftFor(1, 0);
        hash = 31 * hash + Double.doubleToLongBits(evenness());
        hash = 31 * hash + buffer.length();
        for (int i = 0; i < buffer.length(); i++) {
            hash = 31 * hash + buffer.charAt(i);
        }
        return hash;
    }
}
