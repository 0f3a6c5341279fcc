/** The sentences of the promises 14 to 19: looks, by which nothing is changed. */
final class LooksEdges {
    private static final String FIRST_NAMED =
            "If several exceptions apply, the one that is named first in the throws clause is thrown.";

    private LooksEdges() {
    }

    static void all() {
        stateOf();
        reached();
        stateOfRefused();
        index();
        rounds();
        expectations();
        arm();
        bestState();
        leastRounds();
        armRefused();
        count();
        sum();
        setting();
    }

    private static void stateOf() {
        Edge.of(14, "Returns a property of a state.", () -> {
            for (int what = 0; what <= 4; what++) {
                int number = what;
                Edge.onlyLooks(Made::busy, x -> x.stateOf(0, 1, number));
            }
        });
        Edge.of(14, "`arm`: 0 to 3", () -> {
            RestedArms arms = Made.told("0b=5;3b=6");
            Check.due("the least", arms.stateOf(0, 1, 0), 5);
            Check.due("the greatest", arms.stateOf(3, 1, 0), 6);
        });
        Edge.of(14, "`state`: 0 to 3", () -> {
            RestedArms arms = Made.told("1a=5;1d=6");
            Check.due("the least", arms.stateOf(1, 0, 0), 5);
            Check.due("the greatest", arms.stateOf(1, 3, 0), 6);
        });
        Edge.of(14, "Returns the property.", () -> {
            RestedArms arms = Made.told("0a=0>aa0;3d=99>dd8;1b=42>ca7");
            int[][] due = {{0, 0, 0, 0, 1}, {99, 3, 3, 8, 8}, {42, 2, 0, 7, 7}};
            for (int what = 0; what <= 4; what++) {
                Check.due("the least of " + what, arms.stateOf(0, 0, what), due[0][what]);
                Check.due("the greatest of " + what, arms.stateOf(3, 3, what), due[1][what]);
                Check.due("one between of " + what, arms.stateOf(1, 1, what), due[2][what]);
            }
        });
    }

    private static void reached() {
        Edge.of(14, "`what`: 0: its gift; 1: its good state; 2: its bad state; 3: its chance; 4: states of the arm,"
                + " itself, too, that can be reached from it, as a mask with the bit t for the state t (by chances"
                + " above 0 and below 8 both ways, with 8 the good one alone, with 0 the bad one alone)", () -> {
            for (int chance = 0; chance <= 8; chance++) {
                int due = chance == 0 ? 1 + 4 : chance == 8 ? 1 + 2 : 1 + 2 + 4;
                Check.due("with the chance " + chance, Made.told("2a=0>bc" + chance).stateOf(2, 0, 4), due);
            }
            for (int state = 0; state < 4; state++) {
                Check.due("itself alone", new RestedArms().stateOf(1, state, 4), 1 << state);
            }
            Check.due("itself on no way back", Made.told("0a=0>bb4").stateOf(0, 0, 4), 3);
            Check.due("others on no way on", Made.told("0a=0>bb4").stateOf(0, 1, 4), 2);
        });
        Edge.of(14, "that can be reached from it", () -> {
            for (int order = 0; order < 256; order++) {
                int[] states = {order & 3, order >> 2 & 3, order >> 4 & 3, order >> 6};
                if ((1 << states[0] | 1 << states[1] | 1 << states[2] | 1 << states[3]) == 15) {
                    reachedInARow(states, 8);
                    reachedInARow(states, 0);
                    reachedInARow(states, 4);
                }
            }
            Check.due("a circle", Made.told("1a=0>bb8;1b=0>cc8;1c=0>dd8;1d=0>aa8").stateOf(1, 2, 4), 15);
            Check.due("a way of no chance cuts it", Made.told("1a=0>bb8;1b=0>bc8;1c=0>dd8").stateOf(1, 0, 4), 3);
            Check.due("other arms have their own ways", Made.told("1a=0>bb8;2b=0>cc8").stateOf(1, 0, 4), 3);
        });
    }

    /** Each state goes on to the next one of the row: by 8 the good one, by 0 the bad one, otherwise by both. */
    private static void reachedInARow(int[] states, int chance) {
        RestedArms arms = new RestedArms();
        for (int place = 0; place < 3; place++) {
            int from = states[place];
            int to = states[place + 1];
            arms.way(1, from, chance == 0 ? from : to, chance == 8 ? from : to, chance);
        }
        int due = 0;
        for (int place = 3; place >= 0; place--) {
            due |= 1 << states[place];
            Check.due("from " + states[place] + " with the chance " + chance, arms.stateOf(1, states[place], 4), due);
        }
    }

    private static void stateOfRefused() {
        Edge.of(14, "Throws `IndexOutOfBoundsException` if there is no such arm or state", () -> {
            for (int no : Edge.beside(0, 3)) {
                for (int what = 0; what <= 4; what++) {
                    int number = what;
                    Edge.refused(Edge.BOUNDS, Made::savedFull, x -> x.stateOf(no, 0, number));
                    Edge.refused(Edge.BOUNDS, Made::savedFull, x -> x.stateOf(0, no, number));
                }
            }
        });
        Edge.of(14, "Throws `IllegalArgumentException` if what is not 0 to 4", () -> {
            for (int no : Edge.beside(0, 4)) {
                Edge.refusedAlways(Edge.ARGUMENT, x -> x.stateOf(3, 3, no));
            }
        });
        Edge.of(14, "Exceptions", FIRST_NAMED, () -> {
            Edge.refusedAlways(Edge.BOUNDS, x -> x.stateOf(4, 0, 5));
            Edge.refusedAlways(Edge.BOUNDS, x -> x.stateOf(0, -1, -1));
        });
    }

    private static void index() {
        Edge.of(15, "Returns the index of a state.", () -> Edge.onlyLooks(Made::busy, x -> x.index(0, 1)));
        Edge.of(15, "`arm`: 0 to 3", () -> {
            RestedArms arms = oneRound("0b=5;3b=6", 0);
            Check.due("the least", arms.index(0, 1), 5000);
            Check.due("the greatest", arms.index(3, 1), 6000);
        });
        Edge.of(15, "`state`: 0 to 3", () -> {
            RestedArms arms = oneRound("1a=5;1d=6", 0);
            Check.due("the least", arms.index(1, 0), 5000);
            Check.due("the greatest", arms.index(1, 3), 6000);
        });
        Edge.of(15, "Returns the index.", () -> {
            Check.due("the least", new RestedArms().index(3, 3), 0);
            Check.due("the greatest without discount", oneRound("2b=99", 0).index(2, 1), 99000);
            long value = 0;
            for (int round = 0; round < 60; round++) {
                value = 99000 + 99 * value / 100;
            }
            RestedArms arms = oneRound("2b=99", 99);
            arms.set(1, 60);
            Check.due("the greatest of all settings", arms.index(2, 1), value / 100);
        });
        Edge.of(15, "Returns the index.", () -> {
            RestedArms arms = oneRound("2b=8", 50);
            arms.set(1, 2);
            Check.due("before any change", arms.index(2, 0), 0);
            arms.way(2, 0, 1, 1, 8);
            Check.due("behind way", arms.index(2, 0), 2000);
            arms.gift(2, 1, 16);
            Check.due("behind gift", arms.index(2, 0), 4000);
            arms.set(1, 1);
            Check.due("behind set", arms.index(2, 0), 0);
            arms.undo();
            Check.due("behind undo", arms.index(2, 0), 4000);
            Made.type(arms, "2b=4");
            arms.read();
            Check.due("behind read", arms.index(2, 0), 1000);
            arms.play(2, 9);
            arms.begin(3);
            Check.due("not by pulls", arms.index(2, 0), 1000);
        });
        Edge.of(15, "Throws `IndexOutOfBoundsException` if there is no such arm or state", () -> {
            for (int no : Edge.beside(0, 3)) {
                Edge.refusedAlways(Edge.BOUNDS, x -> x.index(no, 3));
                Edge.refusedAlways(Edge.BOUNDS, x -> x.index(3, no));
            }
        });
        Edge.of(15, "Terms", "values are told in thousandths.",
                () -> Check.due("of 1", oneRound("0a=1", 0).index(0, 0), 1000));
    }

    private static RestedArms oneRound(String states, int discount) {
        RestedArms arms = Made.told(states);
        arms.set(1, 1);
        arms.set(0, discount);
        return arms;
    }

    private static void rounds() {
        Edge.of(15, "Indices", "The index of a state s of an arm is found in setting 1 rounds.", () -> {
            RestedArms arms = oneRound("0a=1", 50);
            // The values are 1000, 1500, 1750, ... and stay 1999 from the eleventh round on.
            int[] due = {500, 750, 875, 937, 968, 984, 992, 996, 998, 999, 999, 999};
            for (int rounds = 1; rounds <= due.length; rounds++) {
                arms.set(1, rounds);
                Check.due("behind the rounds " + rounds, arms.index(0, 0), due[rounds - 1]);
            }
            arms.set(1, 60);
            Check.due("behind the most rounds", arms.index(0, 0), 999);
        });
        Edge.of(15, "Indices", "There are values of the 4 states, at first all 0.", () -> {
            RestedArms arms = oneRound("0a=1>bb8;0b=99;0c=5>bb8", 99);
            Check.due("one round knows no ways", arms.index(0, 0), 10);
            Check.due("nor by another state", arms.index(0, 2), 50);
            Check.due("again", arms.index(0, 0), 10);
        });
        Edge.of(15, "Indices", "of the values ahead of the round", () -> {
            // The first round gives 10000 and 0, the second one 5000 for the state that goes to the other.
            RestedArms down = oneRound("0a=10;0b=0>aa8", 50);
            down.set(1, 2);
            Check.due("to a lower state", down.index(0, 1), 2500);
            RestedArms up = oneRound("0b=10;0a=0>bb8", 50);
            up.set(1, 2);
            Check.due("to a higher state", up.index(0, 0), 2500);
        });
        Edge.of(15, "Indices", "Then the value of each state behind the round is the greater one of its own and"
                + " that of the state s.", () -> {
            RestedArms arms = oneRound("1a=40>bb8;1b=3>bb8", 50);
            arms.set(1, 3);
            // For a both are 40000, 60000, 70000; for b it is 3000, 4500, 5250, since a is greater by itself.
            Check.due("the right to begin anew", arms.index(1, 0), 35000);
            Check.due("a lesser one is no right", arms.index(1, 1), 2625);
        });
        Edge.of(15, "Indices", "(So one has the right to begin anew at s.)", () -> {
            RestedArms arms = oneRound("1a=40>bb8;1b=40>cc8", 50);
            arms.set(1, 3);
            Check.due("equal ones", arms.index(1, 0), arms.index(1, 1));
            Check.due("their index", arms.index(1, 1), 35000);
        });
    }

    private static void expectations() {
        Edge.of(15, "Arms", "The expectation of a row of values of the 4 states, at a state, is (the chance times"
                + " the value of its good state, and 8 less the chance times that of its bad state), divided by"
                + " 8.", () -> {
            for (int chance = 0; chance <= 8; chance++) {
                RestedArms arms = oneRound("0a=0>bc" + chance + ";0b=8;0c=16", 50);
                arms.set(1, 2);
                // The values of b and c are 8000 and 16000 behind the first round.
                Check.due("with the chance " + chance, arms.index(0, 0), (16000 - 1000 * chance) / 4);
            }
        });
        Edge.of(15, "Terms", "divisions are rounded down", () -> {
            // Behind the rounds a has 0, then 262 (of 262.5), then 409 (of 409.8, of 1366, of 1366.75).
            // 70 in 100 of that are 286 (of 286.3).
            RestedArms arms = oneRound("0a=0>ba1;0b=7", 30);
            arms.set(1, 3);
            Check.due("three times over", arms.index(0, 0), 286);
        });
        Edge.of(15, "Indices", "In a round, each state t first gets its own: 1000 times its gift, and to that"
                + " (setting 0 times its expectation of the values ahead of the round) divided by 100.", () -> {
            int[] discounts = {0, 1, 50, 98, 99};
            for (int discount : discounts) {
                RestedArms arms = oneRound("3d=10>cc8;3c=20", discount);
                arms.set(1, 2);
                int value = 10000 + 200 * discount;
                Check.due("with the discount " + discount, arms.index(3, 3), (100 - discount) * value / 100);
            }
        });
        Edge.of(15, "Indices", "The index is (100 less setting 0) times the value of s behind the last round,"
                + " divided by 100.", () -> {
            Check.due("with the least discount", oneRound("0a=99", 0).index(0, 0), 99000);
            RestedArms arms = oneRound("0a=1", 99);
            Check.due("with the greatest discount", arms.index(0, 0), 10);
            arms.set(1, 2);
            Check.due("19 of 19.9", arms.index(0, 0), 19);
        });
    }

    private static void arm() {
        Edge.of(16, "Returns a property of an arm.", () -> {
            for (int what = 0; what <= 3; what++) {
                int number = what;
                Edge.onlyLooks(Made::busy, x -> x.arm(2, number));
            }
        });
        Edge.of(16, "`arm`: 0 to 3", () -> {
            RestedArms arms = new RestedArms();
            arms.put(0, 1);
            arms.put(3, 2);
            Check.due("the least", arms.arm(0, 0), 1);
            Check.due("the greatest", arms.arm(3, 0), 2);
        });
        Edge.of(16, "0: its state; 1: pulls of it since the beginning", () -> {
            RestedArms arms = new RestedArms();
            Check.due("its state at first", arms.arm(2, 0), 0);
            arms.put(2, 3);
            Check.due("the greatest state", arms.arm(2, 0), 3);
            Check.due("no pull yet", arms.arm(2, 1), 0);
            arms.pull(2);
            arms.pull(1);
            Check.due("one pull", arms.arm(2, 1), 1);
            arms.begin(1);
            Check.due("since the beginning", arms.arm(2, 1), 0);
            RestedArms most = new RestedArms();
            for (int play = 0; play < 101; play++) {
                most.play(0, 99);
            }
            Check.due("the most pulls", most.arm(0, 1), 9999);
            Check.due("none of another", most.arm(1, 1), 0);
        });
        Edge.of(16, "Returns the property.", () -> {
            RestedArms arms = Made.told("2c=9;2b=8>dd8");
            arms.put(2, 1);
            arms.pull(2);
            arms.pull(2);
            int[] due = {3, 2, 2, 1};
            for (int what = 0; what < 4; what++) {
                Check.due("property " + what, arms.arm(2, what), due[what]);
            }
        });
    }

    private static void bestState() {
        Edge.of(16, "2: the state with the greatest index, of several the lowest", () -> {
            Check.due("all are equal", new RestedArms().arm(0, 2), 0);
            for (int state = 0; state < 4; state++) {
                RestedArms arms = new RestedArms();
                arms.gift(1, state, 1);
                Check.due("one alone", arms.arm(1, 2), state);
                for (int other = 0; other < 4; other++) {
                    RestedArms two = new RestedArms();
                    two.gift(1, state, 1);
                    two.gift(1, other, 1);
                    Check.due("of " + state + " and " + other, two.arm(1, 2), Math.min(state, other));
                }
            }
            RestedArms in = Made.told("0c=5");
            in.put(0, 1);
            Check.due("not the one that it is in", in.arm(0, 2), 2);
        });
    }

    private static void leastRounds() {
        Edge.of(16, "3: the least number of rounds, 1 to setting 1, behind which the index of its state would be"
                + " the same as behind setting 1 rounds", () -> {
            RestedArms arms = oneRound("0a=1;0d=99", 50);
            Check.due("of one round", arms.arm(0, 3), 1);
            // The indices are 500, 750, 875, 937, 968, 984, 992, 996, 998, 999, and 999 from there on.
            int[] rounds = {2, 8, 9, 10, 11, 12, 59, 60};
            int[] due = {2, 8, 9, 10, 10, 10, 10, 10};
            for (int i = 0; i < rounds.length; i++) {
                arms.set(1, rounds[i]);
                Check.due("of the rounds " + rounds[i], arms.arm(0, 3), due[i]);
            }
            arms.put(0, 1);
            Check.due("of a state that is worth nothing", arms.arm(0, 3), 1);
            arms.put(0, 0);
            arms.set(0, 0);
            Check.due("without discount", arms.arm(0, 3), 1);
        });
        Edge.of(16, "1 to setting 1", () -> {
            RestedArms arms = oneRound("3d=99", 99);
            arms.put(3, 3);
            for (int rounds = 1; rounds <= 60; rounds++) {
                arms.set(1, rounds);
                Check.due("each round counts", arms.arm(3, 3), rounds);
                Check.due("none counts", arms.arm(2, 3), 1);
            }
        });
    }

    private static void armRefused() {
        Edge.of(16, "Throws `IndexOutOfBoundsException` if there is no such arm", () -> {
            for (int no : Edge.beside(0, 3)) {
                for (int what = 0; what <= 3; what++) {
                    int number = what;
                    Edge.refused(Edge.BOUNDS, Made::savedFull, x -> x.arm(no, number));
                }
            }
        });
        Edge.of(16, "Throws `IllegalArgumentException` if what is not 0 to 3", () -> {
            for (int no : Edge.beside(0, 3)) {
                Edge.refusedAlways(Edge.ARGUMENT, x -> x.arm(3, no));
            }
        });
        Edge.of(16, "Exceptions", FIRST_NAMED, () -> {
            Edge.refusedAlways(Edge.BOUNDS, x -> x.arm(4, 4));
            Edge.refusedAlways(Edge.BOUNDS, x -> x.arm(-1, -1));
        });
    }

    private static void count() {
        Edge.of(17, "`what`: 0: pulls since the beginning; 1: how often another arm was pulled than the one ahead;"
                + " 2: the arm that was pulled last, NONE if none was; 3: saved states", () -> {
            RestedArms arms = new RestedArms();
            long[] none = {0, 0, RestedArms.NONE, 0};
            for (int what = 0; what < 4; what++) {
                Check.due("without pulls, " + what, arms.count(what), none[what]);
            }
            arms.pull(0);
            long[] one = {1, 0, 0, 1};
            for (int what = 0; what < 4; what++) {
                Check.due("behind one pull, " + what, arms.count(what), one[what]);
            }
            arms.play(2, 99);
            long[] hundred = {100, 99, 3, 2};
            for (int what = 0; what < 4; what++) {
                Check.due("behind a hundred, " + what, arms.count(what), hundred[what]);
            }
            RestedArms most = Made.atLimit();
            long[] all = {9999, 9998, 2, 6};
            for (int what = 0; what < 4; what++) {
                Check.due("the most, " + what, most.count(what), all[what]);
            }
        });
        Edge.of(17, "Returns a number.", () -> {
            for (int what = 0; what <= 3; what++) {
                int number = what;
                Edge.onlyLooks(Made::busy, x -> x.count(number));
            }
        });
        Edge.of(17, "Returns the number.", () -> {
            for (int arm = 0; arm < 4; arm++) {
                RestedArms arms = new RestedArms();
                arms.pull(arm);
                Check.due("the last one", arms.count(2), arm);
                arms.undo();
                Check.due("none again", arms.count(2), RestedArms.NONE);
            }
        });
        Edge.of(17, "Throws `IllegalArgumentException` if what is not 0 to 3", () -> {
            for (int no : Edge.beside(0, 3)) {
                Edge.refusedAlways(Edge.ARGUMENT, x -> x.count(no));
            }
        });
        Edge.of(17, "Exceptions", "The constants: `NONE = -1`: There is nothing to return.",
                () -> Check.due("NONE", RestedArms.NONE, -1));
    }

    private static void sum() {
        Edge.of(18, "`what`: 0: what was brought so far, with its weights; 1: the weight of the next pull; 2: the"
                + " long x of the row of chances", () -> {
            RestedArms arms = Made.told("0a=99");
            arms.set(0, 99);
            arms.begin(Made.ahead(-1));
            long[] first = {0, 1000000, Made.ahead(-1)};
            for (int what = 0; what < 3; what++) {
                Check.due("no pull yet, " + what, arms.sum(what), first[what]);
            }
            arms.pull(0);
            arms.pull(0);
            long[] second = {99000 + 98010, 980100, Made.next(-1)};
            for (int what = 0; what < 3; what++) {
                Check.due("behind two, " + what, arms.sum(what), second[what]);
            }
        });
        Edge.of(18, "Returns a sum.", () -> {
            for (int what = 0; what <= 2; what++) {
                int number = what;
                Edge.onlyLooks(Made::busy, x -> x.sum(number));
            }
        });
        Edge.of(18, "Returns the number.", () -> {
            RestedArms least = new RestedArms();
            least.set(0, 99);
            least.set(2, 99);
            least.play(2, 99);
            long weight = 1000000;
            long brought = 0;
            for (int pull = 1; pull < 99; pull++) {
                weight = weight * 99 / 100;
                brought -= (99000 * weight + 999999) / 1000000;
            }
            Check.due("below 0", least.sum(0), brought);
            Check.due("weight", least.sum(1), weight * 99 / 100);
        });
        Edge.of(18, "Throws `IllegalArgumentException` if what is not 0 to 2", () -> {
            for (int no : Edge.beside(0, 2)) {
                Edge.refusedAlways(Edge.ARGUMENT, x -> x.sum(no));
            }
        });
    }

    private static void setting() {
        Edge.of(19, "Returns a setting.", () -> {
            for (int number = 0; number < 4; number++) {
                int setting = number;
                Edge.onlyLooks(Made::busy, x -> x.setting(setting));
            }
        });
        Edge.of(19, "`setting`: 0 to 3", () -> {
            RestedArms arms = new RestedArms();
            arms.set(0, 77);
            arms.set(3, 1);
            Check.due("the least", arms.setting(0), 77);
            Check.due("the greatest", arms.setting(3), 1);
        });
        Edge.of(19, "Returns its value.", () -> {
            int[] least = {0, 1, 0, 0};
            int[] greatest = {99, 60, 99, 1};
            for (int number = 0; number < 4; number++) {
                RestedArms arms = new RestedArms();
                arms.set(number, greatest[number]);
                Check.due("the greatest of " + number, arms.setting(number), greatest[number]);
                arms.set(number, least[number]);
                Check.due("the least of " + number, arms.setting(number), least[number]);
            }
        });
        Edge.of(19, "Throws `IndexOutOfBoundsException` if there is no such setting", () -> {
            for (int no : Edge.beside(0, 3)) {
                Edge.refusedAlways(Edge.BOUNDS, x -> x.setting(no));
            }
        });
    }
}
