/** Each promise of the document by itself: ordinary inputs, the edges that it names, and wrong inputs. */
public final class PromisesTest {
    private static final Class<IndexOutOfBoundsException> BOUNDS = IndexOutOfBoundsException.class;
    private static final Class<IllegalArgumentException> ARGUMENT = IllegalArgumentException.class;
    private static final Class<IllegalStateException> STATE = IllegalStateException.class;
    private static final int[] NO_ARM = {-1, 4, Integer.MIN_VALUE, Integer.MAX_VALUE};

    private PromisesTest() {
    }

    private static void newObject() {
        RestedArms arms = new RestedArms();
        for (int arm = 0; arm < 4; arm++) {
            for (int state = 0; state < 4; state++) {
                Check.due("1 gift", arms.stateOf(arm, state, 0), 0);
                Check.due("1 good", arms.stateOf(arm, state, 1), state);
                Check.due("1 bad", arms.stateOf(arm, state, 2), state);
                Check.due("1 chance", arms.stateOf(arm, state, 3), 4);
                Check.due("1 reach", arms.stateOf(arm, state, 4), 1 << state);
                Check.due("1 index", arms.index(arm, state), 0);
            }
            Check.due("1 state", arms.arm(arm, 0), 0);
            Check.due("1 pulls", arms.arm(arm, 1), 0);
            Check.due("1 best state", arms.arm(arm, 2), 0);
            Check.due("1 rounds", arms.arm(arm, 3), 1);
        }
        int[] counts = {0, 0, RestedArms.NONE, 0};
        long[] sums = {0L, 1000000L, 1L};
        int[] settings = {90, 20, 0, 0};
        for (int what = 0; what < 4; what++) {
            Check.due("1 count " + what, arms.count(what), counts[what]);
            Check.due("1 setting " + what, arms.setting(what), settings[what]);
        }
        for (int what = 0; what < 3; what++) {
            Check.due("1 sum " + what, arms.sum(what), sums[what]);
        }
        Check.due("1 buffer", arms.clearBuffer(), 0);
        Check.due("1 evenness", arms.evenness(), 1.0);
        Check.due("1 NONE", RestedArms.NONE, -1);
        Check.due("1 objects apart", changedTwin().digest() != new RestedArms().digest());
        Check.due("1 a new one", new RestedArms().digest(), arms.digest());
    }

    private static RestedArms changedTwin() {
        RestedArms other = new RestedArms();
        other.gift(0, 0, 99);
        return other;
    }

    private static void gift() {
        RestedArms arms = new RestedArms();
        Check.due("2 first", arms.gift(1, 2, 99), 0);
        Check.due("2 again", arms.gift(1, 2, 0), 99);
        Check.due("2 last state", arms.gift(3, 3, 7), 0);
        Check.due("2 told", arms.stateOf(3, 3, 0), 7);
        Check.due("2 the others stay", arms.stateOf(3, 2, 0) + arms.stateOf(2, 3, 0), 0);
        Check.due("2 saves", arms.count(3), 3);
        arms.gift(3, 3, 7);
        Check.due("2 saves unchanged ones, too", arms.count(3), 4);
        arms.undo();
        arms.undo();
        Check.due("2 undone", arms.stateOf(3, 3, 0), 0);
        for (int no : NO_ARM) {
            Check.refused("2 arm", arms, BOUNDS, () -> arms.gift(no, 0, 0));
            Check.refused("2 state", arms, BOUNDS, () -> arms.gift(0, no, 0));
            Check.refused("2 arm ahead of gift", arms, BOUNDS, () -> arms.gift(no, 0, 100));
            Check.refused("2 state ahead of gift", arms, BOUNDS, () -> arms.gift(0, no, -1));
        }
        for (int no : new int[] {-1, 100, Integer.MIN_VALUE, Integer.MAX_VALUE}) {
            Check.refused("2 gift", arms, ARGUMENT, () -> arms.gift(0, 0, no));
        }
    }

    private static void way() {
        RestedArms arms = new RestedArms();
        Check.due("3 first", arms.way(0, 2, 3, 1, 8), 224);
        Check.due("3 again", arms.way(0, 2, 0, 0, 0), 318);
        Check.due("3 third", arms.way(0, 2, 1, 3, 5), 0);
        Check.due("3 good", arms.stateOf(0, 2, 1), 1);
        Check.due("3 bad", arms.stateOf(0, 2, 2), 3);
        Check.due("3 chance", arms.stateOf(0, 2, 3), 5);
        Check.due("3 saves", arms.count(3), 3);
        arms.undo();
        Check.due("3 undone", arms.way(0, 2, 0, 0, 0), 0);
        for (int no : NO_ARM) {
            Check.refused("3 arm", arms, BOUNDS, () -> arms.way(no, 0, 0, 0, 0));
            Check.refused("3 state", arms, BOUNDS, () -> arms.way(0, no, 0, 0, 0));
            Check.refused("3 good", arms, BOUNDS, () -> arms.way(0, 0, no, 0, 0));
            Check.refused("3 bad", arms, BOUNDS, () -> arms.way(0, 0, 0, no, 0));
            Check.refused("3 bad ahead of chance", arms, BOUNDS, () -> arms.way(0, 0, 0, no, 9));
        }
        for (int no : new int[] {-1, 9, Integer.MIN_VALUE, Integer.MAX_VALUE}) {
            Check.refused("3 chance", arms, ARGUMENT, () -> arms.way(0, 0, 0, 0, no));
        }
    }

    private static void put() {
        RestedArms arms = new RestedArms();
        Check.due("4 first", arms.put(2, 3), 0);
        Check.due("4 again", arms.put(2, 1), 3);
        Check.due("4 told", arms.arm(2, 0), 1);
        Check.due("4 others", arms.arm(1, 0) + arms.arm(3, 0), 0);
        Check.due("4 saves", arms.count(3), 2);
        Check.due("4 is no pull", arms.count(0), 0);
        arms.undo();
        Check.due("4 undone", arms.arm(2, 0), 3);
        for (int no : NO_ARM) {
            Check.refused("4 arm", arms, BOUNDS, () -> arms.put(no, 0));
            Check.refused("4 state", arms, BOUNDS, () -> arms.put(0, no));
        }
    }

    private static void set() {
        RestedArms arms = new RestedArms();
        int[] least = {0, 1, 0, 0};
        int[] greatest = {99, 60, 99, 1};
        int[] first = {90, 20, 0, 0};
        for (int i = 0; i < 4; i++) {
            int setting = i;
            Check.due("5 first of " + i, arms.set(i, greatest[i]), first[i]);
            Check.due("5 told " + i, arms.setting(i), greatest[i]);
            Check.due("5 again of " + i, arms.set(i, least[i]), greatest[i]);
            Check.due("5 told again " + i, arms.setting(i), least[i]);
            arms.undo();
            Check.due("5 undone " + i, arms.setting(i), greatest[i]);
            Check.refused("5 below " + i, arms, ARGUMENT, () -> arms.set(setting, least[setting] - 1));
            Check.refused("5 above " + i, arms, ARGUMENT, () -> arms.set(setting, greatest[setting] + 1));
            Check.refused("5 far below " + i, arms, ARGUMENT, () -> arms.set(setting, Integer.MIN_VALUE));
            Check.refused("5 far above " + i, arms, ARGUMENT, () -> arms.set(setting, Integer.MAX_VALUE));
        }
        Check.due("5 saves", arms.count(3), 4);
        for (int no : NO_ARM) {
            Check.refused("5 setting", arms, BOUNDS, () -> arms.set(no, 1));
            Check.refused("5 setting ahead of value", arms, BOUNDS, () -> arms.set(no, 1000));
        }
    }

    private static void pull() {
        // From x = 1 the chances 3, 4, 5, 3, 6 are drawn; the first is below 4, the second is not.
        RestedArms arms = Made.told("0a=10>bc4;0b=20>ad4;1a=7>dd0");
        long x = Made.next(1L);
        Check.due("6 the first chance", x >>> 61, 3);
        Check.due("6 to the good state", arms.pull(0), 1);
        Check.due("6 brought", arms.sum(0), 10000);
        Check.due("6 weight", arms.sum(1), 900000);
        Check.due("6 x", arms.sum(2), x);
        x = Made.next(x);
        Check.due("6 the second chance", x >>> 61, 4);
        Check.due("6 to the bad state", arms.pull(0), 3);
        Check.due("6 brought less", arms.sum(0), 10000 + 18000);
        Check.due("6 weight again", arms.sum(1), 810000);
        arms.set(2, 9);
        Check.due("6 another arm", arms.pull(1), 3);
        Check.due("6 the cost", arms.sum(0), 28000 - 1620);
        Check.due("6 changes", arms.count(1), 1);
        Check.due("6 pulls", arms.count(0), 3);
        Check.due("6 last", arms.count(2), 1);
        Check.due("6 pulls of 0", arms.arm(0, 1), 2);
        Check.due("6 pulls of 1", arms.arm(1, 1), 1);
        Check.due("6 who rests stays", arms.arm(2, 0), 0);
        Check.due("6 saves", arms.count(3), 5);
        arms.undo();
        Check.due("6 undone", arms.sum(0), 28000);
        for (int no : NO_ARM) {
            Check.refused("6 arm", arms, BOUNDS, () -> arms.pull(no));
        }
    }

    private static void pullRoundsDown() {
        RestedArms arms = Made.told("0a=3;1a=1");
        arms.set(0, 33);
        arms.set(2, 2);
        arms.pull(0);
        arms.pull(0);
        arms.pull(0);
        // The weights are 1000000, 330000, 108900, 35937, 11859 (of 11859.21).
        Check.due("6 brought", arms.sum(0), 3000 + 990 + 326);
        arms.pull(1);
        Check.due("6 down below 0", arms.sum(0), 4316 - 36);
        Check.due("6 weight down", arms.sum(1), 11859);
    }

    private static void pullWithRests() {
        RestedArms arms = Made.told("0a=1>bc4;1a=1>bc4;2a=1>bc4;3a=1>bc4");
        arms.set(3, 1);
        // Drawn are 3 for the arm 2, then 4, 5, 3 for the arms 0, 1, 3.
        long x = Made.next(1L);
        Check.due("6 pulled first", x >>> 61, 3);
        x = Made.next(x);
        Check.due("6 then 0", x >>> 61, 4);
        x = Made.next(x);
        long third = x >>> 61;
        x = Made.next(x);
        long fourth = x >>> 61;
        Check.due("6 with rests", arms.pull(2), 1);
        Check.due("6 rested 0", arms.arm(0, 0), 2);
        Check.due("6 rested 1", arms.arm(1, 0), third < 4 ? 1 : 2);
        Check.due("6 rested 3", arms.arm(3, 0), fourth < 4 ? 1 : 2);
        Check.due("6 x behind rests", arms.sum(2), x);
        Check.due("6 rests are no pulls", arms.count(0), 1);
        Check.due("6 chance 0 is never good", never(0), 2);
        Check.due("6 chance 8 is always good", never(8), 1);
    }

    /** The state behind pulls from the state 0 that all have the same chance. */
    private static int never(int chance) {
        RestedArms arms = new RestedArms();
        arms.way(0, 0, 1, 2, chance);
        int state = 0;
        for (int i = 0; i < 40; i++) {
            arms.put(0, 0);
            int came = arms.pull(0);
            state = i == 0 || came == state ? came : -1;
        }
        return state;
    }

    private static void pullLimit() {
        RestedArms arms = Made.pulled(9998);
        arms.pull(3);
        Check.due("6 the limit", arms.count(0), 9999);
        Check.refused("6 beyond", arms, STATE, () -> arms.pull(0));
        Check.refused("6 no arm ahead of the limit", arms, BOUNDS, () -> arms.pull(4));
        Check.refused("7 beyond", arms, STATE, () -> arms.play(0, 1));
        Check.refused("7 arguments ahead of the limit", arms, ARGUMENT, () -> arms.play(0, 100));
        arms.set(0, 99);
        Check.due("21 no limit", arms.ifPlayed(2, 99), 0);
        arms.begin(5);
        Check.due("6 anew", arms.pull(0), 1);
    }

    private static void play() {
        RestedArms arms = Made.told("0a=5;1a=9;2a=9");
        Check.due("7 by index, the first is no change", arms.play(0, 3), 0);
        Check.due("7 the lowest of the best", arms.arm(1, 1), 3);
        Check.due("7 brought", arms.sum(0), 9000 + 8100 + 7290);
        Check.due("7 saves as one", arms.count(3), 2);
        Check.due("7 in a circle, the first changes too", arms.play(2, 5), 5);
        Check.due("7 last", arms.count(2), 2);
        Check.due("7 the arm 2", arms.arm(2, 1), 2);
        Check.due("7 stays with the equal last one", arms.play(1, 2), 0);
        Check.due("7 changes in all", arms.count(1), 5);
        Check.due("7 pulls", arms.count(0), 10);
        arms.undo();
        arms.undo();
        Check.due("7 undone as one", arms.count(0), 3);
        Check.due("7 undone changes", arms.count(1), 0);
        Check.refused("7 rule", arms, ARGUMENT, () -> arms.play(-1, 1));
        Check.refused("7 rule above", arms, ARGUMENT, () -> arms.play(3, 1));
        Check.refused("7 no pulls", arms, ARGUMENT, () -> arms.play(0, 0));
        Check.refused("7 many pulls", arms, ARGUMENT, () -> arms.play(0, 100));
        Check.refused("7 far off", arms, ARGUMENT, () -> arms.play(0, Integer.MAX_VALUE));
        Check.due("7 all 99", arms.play(2, 99), 99);
        RestedArms fresh = new RestedArms();
        Check.due("7 a circle from the arm 0", fresh.play(2, 5), 4);
        Check.due("7 circle ends", fresh.count(2), 0);
    }

    private static void playLimit() {
        RestedArms arms = Made.pulled(9950);
        Check.refused("7 more than fit", arms, STATE, () -> arms.play(0, 50));
        Check.due("7 as many as fit", arms.play(2, 49), 49);
        Check.due("7 the limit", arms.count(0), 9999);
    }

    private static void begin() {
        RestedArms arms = Made.told("0a=5>bb8;1b=9");
        arms.set(2, 4);
        arms.put(1, 1);
        arms.play(2, 5);
        Check.due("8 pulls that were", arms.begin(-77L), 5);
        int[] counts = {0, 0, RestedArms.NONE, 5};
        long[] sums = {0L, 1000000L, -77L};
        for (int what = 0; what < 4; what++) {
            Check.due("8 count " + what, arms.count(what), counts[what]);
            Check.due("8 arm " + what, arms.arm(what, 0) + 10 * arms.arm(what, 1), 0);
        }
        for (int what = 0; what < 3; what++) {
            Check.due("8 sum " + what, arms.sum(what), sums[what]);
        }
        Check.due("8 gifts stay", arms.stateOf(1, 1, 0), 9);
        Check.due("8 settings stay", arms.setting(2), 4);
        Check.due("8 again", arms.begin(Long.MIN_VALUE), 0);
        Check.due("8 least x", arms.sum(2), Long.MIN_VALUE);
        arms.undo();
        arms.undo();
        Check.due("8 undone", arms.count(0), 5);
        Check.due("8 undone state", arms.arm(1, 0), 1);
        arms.begin(1L);
        arms.pull(0);
        Check.due("8 the row", arms.sum(2), 7806831264735756412L);
    }

    private static void append() {
        RestedArms arms = new RestedArms();
        Check.due("9 least", arms.append(33), 1);
        Check.due("9 greatest", arms.append(126), 2);
        for (int no : new int[] {32, 127, -1, 0, Integer.MIN_VALUE, Integer.MAX_VALUE}) {
            Check.refused("9 code", arms, ARGUMENT, () -> arms.append(no));
        }
        for (int length = 3; length <= 60; length++) {
            Check.due("9 length", arms.append('x'), length);
        }
        Check.refused("9 full", arms, STATE, () -> arms.append('x'));
        Check.refused("9 the code first", arms, ARGUMENT, () -> arms.append(127));
        Check.due("9 saves nothing", arms.count(3), 0);
        Check.due("9 whole length", arms.clearBuffer(), 60);
    }

    private static void clearBuffer() {
        RestedArms arms = Made.typed("0a=1");
        Check.due("10 length", arms.clearBuffer(), 4);
        Check.due("10 empty", arms.clearBuffer(), 0);
        Check.due("10 saves nothing", arms.count(3), 0);
        Check.due("10 from the start", arms.append('1'), 1);
        Check.due("10 the same as without", Made.typed("1").digest(), arms.digest());
    }

    private static void firstError() {
        String[] fine = {
            "", "0", "3", "0a", "3d", "2b=", "0a=0", "0a=9", "0a=10", "0a=99", "0a=0>", "0a=7>", "0a=77>", "0a=0>a",
            "0a=0>dd", "0a=0>ad8", "0a=0>da0", "0a=0;", "0a=5;", "0a=55;1b", "0a=1>bc4;", "0a=0>ad8;3c=1;0a=0;0a=1"
        };
        for (String text : fine) {
            Check.due("11 " + text, Made.typed(text).firstError(), text.length());
        }
        String[] wrong = {
            "4", "a", ";", "/", "0e", "0A", "0`", "00", "0a>", "0a0", "0a=a", "0a=;", "0a=>", "0a=/", "0a=:", "0a=00",
            "0a=07", "0a=5:", "0a=5/", "0a=55:", "0a=100", "0a=990", "0a=1=", "0a=12=", "0a=0>e",
            "0a=0>0", "0a=0>ae", "0a=0>a0", "0a=0>aa9",
            "0a=0>aa;", "0a=0>aa/", "0a=0>aa80", "0a=0>aa8>", "0a=0;;", "0a=0;4", "0a=0;a", "0a=0>aa8;3d=0>dd9",
            "0a=0>>", "0a=10>b;", "0a=0>`", "0a=0>a`"
        };
        for (String text : wrong) {
            Check.due("11 " + text, Made.typed(text).firstError(), text.length() - 1);
            Check.due("11 behind " + text, Made.typed(text + "0a=1;").firstError(), text.length() - 1);
        }
        RestedArms arms = Made.typed("0a=1;0a=1;0a=1;0a=1;0a=1;0a=1;0a=1;0a=1;0a=1;0a=1;0a=1;0a=1>");
        Check.due("11 a full buffer may be a beginning", arms.firstError(), 60);
        Check.due("11 changes nothing", arms.clearBuffer(), 60);
    }

    private static void read() {
        RestedArms arms = Made.typed("0a=10>bc7;3d=9;0a=0;1b=99>ad0");
        Check.due("12 parts", arms.read(), 4);
        Check.due("12 the later part", arms.stateOf(0, 0, 0), 0);
        Check.due("12 the way of the earlier one", arms.stateOf(0, 0, 1) * 100 + arms.stateOf(0, 0, 2) * 10
                + arms.stateOf(0, 0, 3), 127);
        Check.due("12 only the gift", arms.way(3, 3, 3, 3, 4), 334);
        Check.due("12 one digit", arms.stateOf(3, 3, 0), 9);
        Check.due("12 two digits", arms.stateOf(1, 1, 0), 99);
        Check.due("12 the last way", arms.way(1, 1, 0, 3, 0), 30);
        Check.due("12 clears", arms.clearBuffer(), 0);
        Check.due("12 saves as one", arms.count(3), 3);
        arms.undo();
        arms.undo();
        Made.type(arms, "2");
        arms.undo();
        Check.due("12 undone", arms.stateOf(1, 1, 0), 0);
        Check.due("12 undone way", arms.stateOf(0, 0, 3), 4);
        Check.due("12 the buffer is not undone", arms.clearBuffer(), 1);
        Check.due("12 one part", Made.told("2c=30").stateOf(2, 2, 0), 30);
        for (String text : new String[] {
            "", "0", "0a", "0a=", "0a=1;", "0a=1>", "0a=1>a", "0a=1>aa", "0a=1>aa4;", "0a=1x", "4a=1", "0a=1;;1a=1",
            "0a=100", "0a=1;1a=01", "x0a=1", "0a=1>aa9"
        }) {
            RestedArms wrong = Made.typed(text);
            Check.refused("12 " + text, wrong, ARGUMENT, wrong::read);
            Check.due("12 keeps " + text, wrong.clearBuffer(), text.length());
        }
        RestedArms full = Made.typed("0a=1;0b=2;0c=3;0d=4;1a=5;1b=6;1c=7;1d=8;2a=9;2b=1;2c=2;3d=34");
        Check.due("12 a full buffer", full.read(), 12);
        Check.due("12 its last part", full.stateOf(3, 3, 0), 34);
    }

    private static void undo() {
        RestedArms arms = new RestedArms();
        Check.refused("13 none", arms, STATE, arms::undo);
        long fresh = arms.digest();
        arms.gift(0, 0, 1);
        Check.due("13 left", arms.undo(), 0);
        Check.due("13 all as it was", arms.digest(), fresh);
        for (int gift = 1; gift <= 8; gift++) {
            arms.gift(0, 0, gift);
        }
        Check.due("13 at most 6", arms.count(3), 6);
        for (int left = 5; left >= 0; left--) {
            Check.due("13 left of 6", arms.undo(), left);
            Check.due("13 gift", arms.stateOf(0, 0, 0), left + 2);
        }
        Check.refused("13 the oldest are dropped", arms, STATE, arms::undo);
        undoBringsAllBack();
    }

    private static void undoBringsAllBack() {
        RestedArms arms = Made.told("0a=10>ba4;0b=90>cd2;1a=20>ab7;2c=55>da1");
        arms.play(2, 7);
        long before = arms.digest();
        arms.begin(3);
        arms.undo();
        Check.due("13 begin", arms.digest(), before);
        arms.set(3, 1);
        arms.play(0, 99);
        arms.undo();
        arms.undo();
        Check.due("13 play", arms.digest(), before);
        arms.way(0, 0, 3, 3, 1);
        arms.set(0, 10);
        Made.type(arms, "2c=9>aa0;1d=5");
        arms.read();
        arms.pull(3);
        for (int left = 5; left >= 2; left--) {
            Check.due("13 left of 6", arms.undo(), left);
        }
        Check.due("13 all", arms.digest(), before);
    }

    private static void stateOf() {
        RestedArms arms = Made.told("1b=42>cd3");
        int[] due = {42, 2, 3, 3, 14};
        for (int what = 0; what < 5; what++) {
            Check.due("14 what " + what, arms.stateOf(1, 1, what), due[what]);
        }
        RestedArms reach = Made.told("0a=0>bb4;0b=0>cc4;0c=0>dd4;1a=0>bc8;1b=0>da8");
        Made.type(reach, "2a=0>bc0;2c=0>da0");
        reach.read();
        Check.due("14 three steps", reach.stateOf(0, 0, 4), 15);
        Check.due("14 two steps", reach.stateOf(0, 1, 4), 14);
        Check.due("14 itself", reach.stateOf(0, 3, 4), 8);
        Check.due("14 with 8 the good alone", reach.stateOf(1, 0, 4), 1 + 2 + 8);
        Check.due("14 with 0 the bad alone", reach.stateOf(2, 0, 4), 1 + 4);
        Check.due("14 with 1 both", Made.told("0a=0>bc1").stateOf(0, 0, 4), 7);
        Check.due("14 with 7 both", Made.told("0a=0>bc7").stateOf(0, 0, 4), 7);
        Check.due("14 with 8 no other", Made.told("0b=0>cd8").stateOf(0, 1, 4), 2 + 4);
        Check.due("14 with 0 no other", Made.told("0b=0>cd0").stateOf(0, 1, 4), 2 + 8);
        Check.due("14 backwards", Made.told("0d=0>cc4;0c=0>bb4;0b=0>aa4").stateOf(0, 3, 4), 15);
        RestedArms busy = Made.busy();
        for (int no : NO_ARM) {
            Check.refused("14 arm", busy, BOUNDS, () -> busy.stateOf(no, 0, 0));
            Check.refused("14 state", busy, BOUNDS, () -> busy.stateOf(0, no, 0));
            Check.refused("14 state ahead of what", busy, BOUNDS, () -> busy.stateOf(0, no, 5));
        }
        for (int no : new int[] {-1, 5, Integer.MIN_VALUE, Integer.MAX_VALUE}) {
            Check.refused("14 what", busy, ARGUMENT, () -> busy.stateOf(0, 0, no));
        }
    }

    private static void index() {
        RestedArms arms = Made.told("0a=10;1a=40>bb8;1b=3>bb8");
        arms.set(1, 1);
        // One round: the value is 1000 times the gift, of which 10 in 100 count.
        Check.due("15 one round", arms.index(0, 0), 1000);
        arms.set(1, 2);
        Check.due("15 two rounds", arms.index(0, 0), 1900);
        arms.set(0, 0);
        Check.due("15 no discount", arms.index(0, 0), 10000);
        arms.set(0, 50);
        arms.set(1, 3);
        // Values of the arm 1 with s = 0: own 40000, 3000, so both 40000; then 60000, so both; then 70000.
        Check.due("15 begins anew", arms.index(1, 0), 35000);
        // With s = 1: 40000, 3000; 41500, 4500; 42250, 5250.
        Check.due("15 its own way", arms.index(1, 1), 2625);
        RestedArms odd = Made.told("0a=1>ba3;0b=2>ab5");
        odd.set(0, 33);
        odd.set(1, 2);
        // s = 0: 1000, 2000 behind the first round; then 1000 + 33 * (11000 / 8) / 100 = 1453 (of 1453.75).
        Check.due("15 rounded down", odd.index(0, 0), 973);
        Check.due("15 saves nothing", odd.count(3), 3);
        indexChanges();
        RestedArms busy = Made.busy();
        for (int no : NO_ARM) {
            Check.refused("15 arm", busy, BOUNDS, () -> busy.index(no, 0));
            Check.refused("15 state", busy, BOUNDS, () -> busy.index(0, no));
        }
    }

    /** An index that was told follows each change, also one that is taken back. */
    private static void indexChanges() {
        RestedArms arms = new RestedArms();
        arms.set(1, 1);
        Check.due("15 first", arms.index(2, 1), 0);
        arms.gift(2, 1, 50);
        Check.due("15 behind gift", arms.index(2, 1), 5000);
        arms.set(0, 80);
        Check.due("15 behind set", arms.index(2, 1), 10000);
        arms.set(1, 2);
        Check.due("15 behind rounds", arms.index(2, 1), 18000);
        arms.way(2, 1, 0, 0, 8);
        Check.due("15 begun anew in spite of the way", arms.index(2, 1), 18000);
        Made.type(arms, "2a=99");
        arms.read();
        Check.due("15 behind read", arms.index(2, 1), (50000 + 79200) / 5);
        arms.undo();
        Check.due("15 behind undo", arms.index(2, 1), 18000);
        arms.gift(2, 0, 99);
        Check.due("15 behind a gift on its way", arms.index(2, 1), (50000 + 79200) / 5);
        arms.way(2, 1, 1, 1, 8);
        Check.due("15 behind way", arms.index(2, 1), 18000);
        arms.pull(0);
        arms.put(2, 1);
        Check.due("15 not by pulls", arms.index(2, 1), 18000);
    }

    private static void arm() {
        RestedArms arms = Made.told("0b=5;0d=5;1a=9>bb8;1b=1>bb8;2c=1");
        arms.put(0, 2);
        arms.pull(1);
        arms.pull(1);
        Check.due("16 state", arms.arm(0, 0), 2);
        Check.due("16 state behind a pull", arms.arm(1, 0), 1);
        Check.due("16 pulls", arms.arm(1, 1), 2);
        Check.due("16 no pulls", arms.arm(0, 1), 0);
        Check.due("16 best, the lowest", arms.arm(0, 2), 1);
        Check.due("16 best", arms.arm(2, 2), 2);
        Check.due("16 best of none", arms.arm(3, 2), 0);
        Check.due("16 rounds of nothing", arms.arm(3, 3), 1);
        roundsNeeded();
        RestedArms busy = Made.busy();
        for (int no : NO_ARM) {
            Check.refused("16 arm", busy, BOUNDS, () -> busy.arm(no, 0));
            Check.refused("16 arm ahead of what", busy, BOUNDS, () -> busy.arm(no, 4));
        }
        for (int no : new int[] {-1, 4, Integer.MIN_VALUE, Integer.MAX_VALUE}) {
            Check.refused("16 what", busy, ARGUMENT, () -> busy.arm(0, no));
        }
    }

    private static void roundsNeeded() {
        RestedArms arms = Made.told("0a=1");
        arms.set(0, 50);
        // The values are 1000, 1500, 1750, 1875, 1937, 1968, 1984, 1992, 1996, 1998, 1999, 1999: the
        // indices are the halves of them, the last two 999 and 999.
        Check.due("16 rounds", arms.arm(0, 3), 10);
        Check.due("16 the index of it", arms.index(0, 0), 999);
        arms.set(1, 9);
        Check.due("16 all rounds", arms.arm(0, 3), 9);
        arms.set(1, 1);
        Check.due("16 one round", arms.arm(0, 3), 1);
        arms.set(1, 60);
        Check.due("16 of sixty", arms.arm(0, 3), 10);
        arms.put(0, 1);
        Check.due("16 of its state", arms.arm(0, 3), 1);
        arms.set(0, 0);
        arms.put(0, 0);
        Check.due("16 no discount", arms.arm(0, 3), 1);
    }

    private static void count() {
        RestedArms arms = new RestedArms();
        arms.pull(3);
        arms.pull(3);
        arms.pull(1);
        int[] due = {3, 1, 1, 3};
        for (int what = 0; what < 4; what++) {
            Check.due("17 what " + what, arms.count(what), due[what]);
        }
        for (int no : new int[] {-1, 4, Integer.MIN_VALUE, Integer.MAX_VALUE}) {
            Check.refused("17 what", arms, ARGUMENT, () -> arms.count(no));
        }
    }

    private static void sum() {
        RestedArms arms = Made.told("0a=99");
        arms.set(0, 99);
        arms.pull(0);
        arms.pull(0);
        long[] due = {99000 + 98010, 980100, Made.next(Made.next(1))};
        for (int what = 0; what < 3; what++) {
            Check.due("18 what " + what, arms.sum(what), due[what]);
        }
        for (int no : new int[] {-1, 3, Integer.MIN_VALUE, Integer.MAX_VALUE}) {
            Check.refused("18 what", arms, ARGUMENT, () -> arms.sum(no));
        }
        RestedArms none = Made.told("0a=99");
        none.set(0, 0);
        none.pull(0);
        none.pull(0);
        Check.due("18 no weight", none.sum(1), 0);
        Check.due("18 only the first", none.sum(0), 99000);
    }

    private static void setting() {
        RestedArms arms = new RestedArms();
        for (int setting = 0; setting < 4; setting++) {
            arms.set(setting, 1);
            Check.due("19 setting " + setting, arms.setting(setting), 1);
        }
        for (int no : NO_ARM) {
            Check.refused("19 setting", arms, BOUNDS, () -> arms.setting(no));
        }
    }

    private static void choice() {
        RestedArms arms = Made.told("0a=10;1a=12>bb8;2a=11>bb8;2b=90");
        Check.due("20 by index", arms.choice(0), 2);
        Check.due("20 by gift", arms.choice(1), 1);
        Check.due("20 by circle", arms.choice(2), 0);
        arms.set(2, 2);
        Check.due("20 no cost without a last one", arms.choice(1), 1);
        arms.pull(0);
        Check.due("20 an equal one is not worth it", arms.choice(1), 0);
        arms.set(2, 1);
        Check.due("20 a greater one is", arms.choice(1), 1);
        Check.due("20 the next", arms.choice(2), 1);
        choiceByIndexWithCost();
        RestedArms ends = new RestedArms();
        ends.pull(3);
        Check.due("20 the circle closes", ends.choice(2), 0);
        Check.due("20 the last of equals", ends.choice(0), 3);
        Check.due("20 the last of equals by gift", ends.choice(1), 3);
        ends.gift(1, 0, 5);
        ends.gift(2, 0, 5);
        Check.due("20 the lowest of equals", ends.choice(0), 1);
        Check.due("20 the lowest of equals by gift", ends.choice(1), 1);
        Check.refused("20 rule", ends, ARGUMENT, () -> ends.choice(-1));
        Check.refused("20 rule above", ends, ARGUMENT, () -> ends.choice(3));
        Check.refused("20 far", ends, ARGUMENT, () -> ends.choice(Integer.MAX_VALUE));
    }

    private static void choiceByIndexWithCost() {
        RestedArms arms = Made.told("0a=10;1a=15");
        arms.set(0, 50);
        arms.set(1, 1);
        arms.pull(0);
        // The indices are 5000 and 7500; the cost counts 10 * 5 * 50 = 2500.
        arms.set(2, 5);
        Check.due("20 by index, equal", arms.choice(0), 0);
        arms.set(2, 4);
        Check.due("20 by index, greater", arms.choice(0), 1);
    }

    private static void ifPlayed() {
        RestedArms arms = Made.told("0a=10>bb8;0b=2;1a=8");
        long before = arms.digest();
        Check.due("21 one", arms.ifPlayed(1, 1), 10000);
        Check.due("21 two", arms.ifPlayed(1, 2), 10000 + 7200);
        Check.due("21 circle", arms.ifPlayed(2, 4), 10000 + 7200);
        Check.due("21 changes nothing", arms.digest(), before);
        for (int rule = 0; rule < 3; rule++) {
            long would = arms.ifPlayed(rule, 9);
            long had = arms.sum(0);
            arms.play(rule, 9);
            Check.due("21 as played by " + rule, arms.sum(0) - had, would);
        }
        arms.set(2, 99);
        Check.due("21 less", arms.ifPlayed(2, 3) < 0);
        Check.refused("21 rule", arms, ARGUMENT, () -> arms.ifPlayed(-1, 1));
        Check.refused("21 rule above", arms, ARGUMENT, () -> arms.ifPlayed(3, 1));
        Check.refused("21 no pulls", arms, ARGUMENT, () -> arms.ifPlayed(0, 0));
        Check.refused("21 many pulls", arms, ARGUMENT, () -> arms.ifPlayed(0, 100));
    }

    private static void bestRule() {
        Check.due("22 all equal", new RestedArms().bestRule(99), 0);
        // The arm 0 gives 1 and then 90 for ever, which only its index tells.
        RestedArms later = Made.told("0a=1>bb8;0b=90>bb8;1a=2");
        long before = later.digest();
        Check.due("22 at once the gift", later.bestRule(1), 1);
        Check.due("22 in the long run the index", later.bestRule(2), 0);
        Check.due("22 all pulls", later.bestRule(99), 0);
        Check.due("22 changes nothing", later.digest(), before);
        RestedArms apart = Made.told("0a=1;1a=2");
        Check.due("22 the lowest of two equals", apart.bestRule(1), 0);
        // Only the circle comes by the arm 1, which gives more from its second state on.
        RestedArms trap = Made.told("0a=1;1a=1>bb8;1b=99>bb8;2a=0;3a=0");
        trap.set(1, 1);
        Check.due("22 the circle finds more", trap.bestRule(6), 2);
        for (int no : new int[] {0, 100, -1, Integer.MIN_VALUE, Integer.MAX_VALUE}) {
            Check.refused("22 pulls", trap, ARGUMENT, () -> trap.bestRule(no));
        }
    }

    private static void giftFor() {
        RestedArms arms = new RestedArms();
        Check.due("23 the lowest arm needs none", arms.giftFor(0, 0), 0);
        Check.due("23 another must be greater", arms.giftFor(1, 0), 1);
        arms.gift(2, 0, 40);
        Check.due("23 below the best", arms.giftFor(1, 0), 40);
        Check.due("23 above the best", arms.giftFor(3, 0), 41);
        Check.due("23 its own gift is not asked", arms.giftFor(2, 0), 1);
        Check.due("23 another state", arms.giftFor(2, 1), 1);
        arms.gift(0, 0, 99);
        Check.due("23 none", arms.giftFor(1, 0), RestedArms.NONE);
        Check.due("23 none at all", arms.giftFor(3, 3), RestedArms.NONE);
        arms.gift(0, 0, 98);
        Check.due("23 the greatest gift", arms.giftFor(1, 0), 99);
        arms.pull(1);
        Check.due("23 the last one need only be equal", arms.giftFor(1, 0), 98);
        arms.gift(0, 0, 20);
        arms.gift(2, 0, 0);
        arms.set(2, 20);
        // Of 1000 each gift counts 878 and a bit, and leaving costs 10 * 20 * 10 = 2000.
        Check.due("23 the cost of leaving", arms.giftFor(1, 0), 18);
        Check.due("23 all others leave for the same cost", arms.giftFor(3, 0), 21);
        Check.due("23 changes nothing", arms.stateOf(1, 0, 0), 0);
        Check.due("23 puts nothing", arms.arm(1, 0), 0);
        RestedArms wayOn = Made.told("0a=10;1b=0>cc8;1c=50>cc8");
        Check.due("23 what comes behind it counts", wayOn.giftFor(1, 1), 0);
        RestedArms busy = Made.busy();
        for (int no : NO_ARM) {
            Check.refused("23 arm", busy, BOUNDS, () -> busy.giftFor(no, 0));
            Check.refused("23 state", busy, BOUNDS, () -> busy.giftFor(0, no));
        }
    }

    private static void evenness() {
        RestedArms arms = new RestedArms();
        Check.due("24 without pulls", arms.evenness(), 1.0);
        arms.pull(2);
        Check.due("24 some without", arms.evenness(), 0.0);
        arms.play(2, 7);
        Check.due("24 even", arms.evenness(), 1.0);
        arms.pull(0);
        Check.due("24 two of three", arms.evenness(), 2.0 / 3.0);
        arms.play(2, 3);
        Check.due("24 even again", arms.evenness(), 1.0);
        for (int least = 0; least < 4; least++) {
            arms.begin(1);
            for (int arm = 0; arm < 4; arm++) {
                for (int pull = 0; pull < (arm == least ? 3 : 7 + arm); pull++) {
                    arms.pull(arm);
                }
            }
            Check.due("24 least of " + least, arms.evenness(), 3.0 / (least == 3 ? 9 : 10));
        }
        arms.begin(1);
        Check.due("24 begun anew", arms.evenness(), 1.0);
    }

    private static void digest() {
        // Told by the document's list, value by value, for a new object.
        long hash = 2843;
        long[] head = {0, 0, -1, 0, 0, 1000000, 1, 90, 20, 0, 0};
        for (long value : head) {
            hash = 31 * hash + value;
        }
        for (int arm = 0; arm < 4; arm++) {
            hash = ((hash * 31 * 31) * 31) * 31 + 1;
            for (int state = 0; state < 4; state++) {
                for (long value : new long[] {0, state, state, 4, 1 << state, 0}) {
                    hash = 31 * hash + value;
                }
            }
        }
        long[] tail = {0, 0, 0, 0, 0, 0, 0, 1, Double.doubleToLongBits(1.0), 2, '0', '~'};
        for (long value : tail) {
            hash = 31 * hash + value;
        }
        RestedArms arms = Made.typed("0~");
        Check.due("25 a new object", arms.digest(), hash);
        Check.due("25 changes nothing", arms.digest(), hash);
        digestTellsShares();
        RestedArms busy = Made.busy();
        busy.clearBuffer();
        Check.due("25 of busy arms", busy.digest(), listed(busy));
        busy.begin(9);
        Check.due("25 of arms begun anew", busy.digest(), listed(busy));
        busy.set(2, 0);
        busy.gift(1, 1, 3);
        Check.due("25 of arms that cost nothing", busy.digest(), listed(busy));
        RestedArms circle = Made.told("0a=1;1a=1>bb8;1b=99>bb8");
        circle.set(1, 1);
        Check.due("25 the best rule there", circle.bestRule(8), 2);
        Check.due("25 with another best rule", circle.digest(), listed(circle));
        RestedArms states = Made.told("0a=30;1a=0>bb8;1b=40>bb8");
        Check.due("25 gifts differ there", states.giftFor(1, 0) != states.giftFor(1, 1));
        Check.due("25 with another gift", states.digest(), listed(states));
    }

    /** The bits of many shares, found as the difference from what the rest of the hash is. */
    private static void digestTellsShares() {
        for (int most = 1; most <= 60; most++) {
            RestedArms arms = new RestedArms();
            arms.set(0, 0);
            arms.play(2, 4 * (1 + most % 7));
            for (int more = 0; more < most; more++) {
                arms.pull(1);
            }
            Check.due("25 with " + arms.evenness(), arms.digest(), listed(arms));
        }
    }

    private static long listed(RestedArms arms) {
        long hash = 2843;
        for (int what = 0; what < 4; what++) {
            hash = 31 * hash + arms.count(what);
        }
        for (int what = 0; what < 3; what++) {
            hash = 31 * hash + arms.sum(what);
        }
        for (int what = 0; what < 4; what++) {
            hash = 31 * hash + arms.setting(what);
        }
        for (int arm = 0; arm < 4; arm++) {
            for (int what = 0; what < 4; what++) {
                hash = 31 * hash + arms.arm(arm, what);
            }
            for (int state = 0; state < 4; state++) {
                for (int what = 0; what < 5; what++) {
                    hash = 31 * hash + arms.stateOf(arm, state, what);
                }
                hash = 31 * hash + arms.index(arm, state);
            }
        }
        for (int rule = 0; rule < 3; rule++) {
            hash = 31 * hash + arms.choice(rule);
            hash = 31 * hash + arms.ifPlayed(rule, 5);
        }
        hash = 31 * hash + arms.bestRule(8);
        hash = 31 * hash + arms.giftFor(1, 0);
        hash = 31 * hash + Double.doubleToLongBits(arms.evenness());
        return 31 * hash;
    }

    public static void main(String[] args) {
        newObject();
        gift();
        way();
        put();
        set();
        pull();
        pullRoundsDown();
        pullWithRests();
        pullLimit();
        play();
        playLimit();
        begin();
        append();
        clearBuffer();
        firstError();
        read();
        undo();
        stateOf();
        index();
        arm();
        count();
        sum();
        setting();
        choice();
        ifPlayed();
        bestRule();
        giftFor();
        evenness();
        digest();
        Check.end();
    }
}
