/** Long runs of calls, right and wrong ones, each answer compared with the one of ReferenceArms. */
public final class RandomRunsTest {
    private static final int RUNS = 160;
    private static final int CALLS = 512;

    private static long seed = 20261119L;

    private RandomRunsTest() {
    }

    private interface Call {
        long of();
    }

    private static int below(int bound) {
        seed = seed * 6364136223846793005L + 1442695040888963407L;
        return (int) ((seed >>> 33) % bound);
    }

    /** Mostly within the bounds, now and then just beside them or far off. */
    private static int number(int least, int greatest) {
        switch (below(60)) {
            case 0: return least - 1;
            case 1: return greatest + 1;
            case 2: return below(2) == 0 ? Integer.MIN_VALUE : Integer.MAX_VALUE;
            default: return least + below(greatest - least + 1);
        }
    }

    private static final String[] ERRORS = {
        "IndexOutOfBoundsException", "IllegalArgumentException", "IllegalStateException"
    };

    private static String answer(Call call) {
        try {
            return Long.toString(call.of());
        } catch (RuntimeException e) {
            String name = e.getClass().getSimpleName();
            for (String known : ERRORS) {
                if (name.equals(known)) {
                    return name;
                }
            }
            return "unknown " + e;
        }
    }

    private static void same(int run, int number, String what, Call mine, Call due) {
        String got = answer(mine);
        String want = answer(due);
        if (!got.equals(want)) {
            Check.fail("run " + run + ", call " + number + ": " + what + " answered " + got + ", due is " + want);
        }
    }

    private static final String SIGNS = "0123abcd=0123456789>;45678e/:~!<";

    private static int nextSign(StringBuilder typed) {
        if (below(40) == 0) {
            return number(33, 126);
        }
        int length = typed.length();
        char end = length == 0 ? ';' : typed.charAt(length - 1);
        char ahead = length < 2 ? ';' : typed.charAt(length - 2);
        if (end == ';') {
            return '0' + below(4);
        }
        if (end == '=') {
            return '0' + below(10);
        }
        if (end == '>' || ahead == '>') {
            return 'a' + below(4);
        }
        if (length >= 3 && typed.charAt(length - 3) == '>') {
            return '0' + below(9);
        }
        if (end >= 'a' && end <= 'd') {
            return '=';
        }
        if (ahead == ';') {
            return 'a' + below(4);
        }
        return below(3) == 0 ? SIGNS.charAt(below(SIGNS.length())) : below(2) == 0 ? '>' : ';';
    }

    private static int typeAndRead(int run, int from, RestedArms mine, ReferenceArms due) {
        StringBuilder typed = new StringBuilder();
        int signs = 1 + below(below(8) == 0 ? 64 : 24);
        int number = from;
        for (int i = 0; i < signs && number < CALLS; i++, number++) {
            int code = nextSign(typed);
            same(run, number, "append(" + code + ")", () -> mine.append(code), () -> due.append(code));
            if (code >= 33 && code <= 126) {
                typed.append((char) code);
            }
            if (below(6) == 0) {
                same(run, number, "firstError()", mine::firstError, due::firstError);
            }
        }
        same(run, number, "firstError() of " + typed, mine::firstError, due::firstError);
        same(run, number + 1, "read() of " + typed, mine::read, due::read);
        if (below(2) == 0) {
            same(run, number + 2, "clearBuffer()", mine::clearBuffer, due::clearBuffer);
        }
        return number + 3;
    }

    private static void change(int run, int number, RestedArms mine, ReferenceArms due) {
        int arm = number(0, 3);
        int state = number(0, 3);
        int good = number(0, 3);
        int bad = number(0, 3);
        int chance = number(0, 8);
        int gift = number(0, below(3) == 0 ? 3 : 99);
        int setting = number(0, 3);
        int value = setting == 3 ? number(0, 1) : setting == 1 ? number(1, 60) : number(0, 99);
        int rule = number(0, 2);
        int pulls = number(1, 99);
        long chances = below(3) == 0 ? below(9) - 4L : seed;
        switch (below(9)) {
            case 0:
            case 1:
                same(run, number, "gift", () -> mine.gift(arm, state, gift), () -> due.gift(arm, state, gift));
                break;
            case 2:
                same(run, number, "way", () -> mine.way(arm, state, good, bad, chance),
                        () -> due.way(arm, state, good, bad, chance));
                break;
            case 3:
                same(run, number, "put", () -> mine.put(arm, state), () -> due.put(arm, state));
                break;
            case 4:
                same(run, number, "set", () -> mine.set(setting, value), () -> due.set(setting, value));
                break;
            case 5:
                same(run, number, "pull", () -> mine.pull(arm), () -> due.pull(arm));
                break;
            case 6:
                same(run, number, "play", () -> mine.play(rule, pulls), () -> due.play(rule, pulls));
                break;
            case 7:
                if (below(8) == 0) {
                    same(run, number, "begin", () -> mine.begin(chances), () -> due.begin(chances));
                }
                break;
            default:
                same(run, number, "undo", mine::undo, due::undo);
                break;
        }
    }

    private static void look(int run, int number, RestedArms mine, ReferenceArms due) {
        int arm = number(0, 3);
        int state = number(0, 3);
        int what = number(0, 4);
        int setting = number(0, 3);
        int rule = number(0, 2);
        int pulls = number(1, 99);
        switch (below(12)) {
            case 0:
                same(run, number, "stateOf", () -> mine.stateOf(arm, state, what),
                        () -> due.stateOf(arm, state, what));
                break;
            case 1:
                same(run, number, "index", () -> mine.index(arm, state), () -> due.index(arm, state));
                break;
            case 2:
                same(run, number, "arm " + what, () -> mine.arm(arm, what), () -> due.arm(arm, what));
                break;
            case 3:
                same(run, number, "count " + what, () -> mine.count(what), () -> due.count(what));
                break;
            case 4:
                same(run, number, "sum " + what, () -> mine.sum(what), () -> due.sum(what));
                break;
            case 5:
                same(run, number, "setting", () -> mine.setting(setting), () -> due.setting(setting));
                break;
            case 6:
                same(run, number, "choice " + rule, () -> mine.choice(rule), () -> due.choice(rule));
                break;
            case 7:
                same(run, number, "ifPlayed", () -> mine.ifPlayed(rule, pulls), () -> due.ifPlayed(rule, pulls));
                break;
            case 8:
                same(run, number, "bestRule", () -> mine.bestRule(pulls), () -> due.bestRule(pulls));
                break;
            case 9:
            case 10:
                same(run, number, "giftFor", () -> mine.giftFor(arm, state), () -> due.giftFor(arm, state));
                break;
            default:
                same(run, number, "evenness", () -> Double.doubleToLongBits(mine.evenness()),
                        () -> Double.doubleToLongBits(due.evenness()));
                break;
        }
    }

    private static void run(int run) {
        RestedArms mine = new RestedArms();
        ReferenceArms due = new ReferenceArms();
        int number = 0;
        while (number < CALLS) {
            int kind = below(20);
            if (kind == 0) {
                number = typeAndRead(run, number, mine, due);
            } else if (kind < 11) {
                change(run, number, mine, due);
            } else if (kind < 18) {
                look(run, number, mine, due);
            } else {
                same(run, number, "digest", mine::digest, due::digest);
            }
            number++;
        }
        same(run, number, "digest", mine::digest, due::digest);
    }

    /** Many plays without a begin come to the limit of 9999. */
    private static void runToTheLimit(int run) {
        RestedArms mine = new RestedArms();
        ReferenceArms due = new ReferenceArms();
        for (int number = 0; number < 130; number++) {
            int rule = below(3);
            int pulls = 60 + below(40);
            int arm = below(4);
            same(run, number, "play", () -> mine.play(rule, pulls), () -> due.play(rule, pulls));
            same(run, number, "pull", () -> mine.pull(arm), () -> due.pull(arm));
            same(run, number, "count", () -> mine.count(0), () -> due.count(0));
        }
        same(run, 130, "digest", mine::digest, due::digest);
    }

    public static void main(String[] args) {
        for (int run = 0; run < RUNS; run++) {
            run(run);
        }
        for (int run = RUNS; run < RUNS + 4; run++) {
            runToTheLimit(run);
        }
        Check.end();
    }
}
