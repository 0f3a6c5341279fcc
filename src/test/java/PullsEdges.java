/** The sentences of the promises 6 to 8: pulls, plays, and beginning anew. */
final class PullsEdges {
    private static final String FIRST_NAMED =
            "If several exceptions apply, the one that is named first in the throws clause is thrown.";
    /** What the first four chances are from x = 1. */
    private static final int[] FROM_ONE = {3, 4, 5, 3};

    private PullsEdges() {
    }

    static void all() {
        pull();
        pullLimit();
        brought();
        weight();
        row();
        goingOn();
        rests();
        play();
        playArguments();
        playLimit();
        begin();
        beginsAnew();
    }

    private static void pull() {
        Edge.of(6, "Pulls an arm.", () -> {
            RestedArms arms = Made.told("2a=7");
            arms.pull(2);
            Check.due("pulls", arms.count(0), 1);
            Check.due("pulls of it", arms.arm(2, 1), 1);
            Check.due("the last one", arms.count(2), 2);
            Check.due("brought", arms.sum(0), 7000);
        });
        Edge.of(6, "Undoable.", () -> {
            for (int i = 0; i < 4; i++) {
                int arm = i;
                Edge.undoable(Made::fresh, x -> x.pull(arm));
                Edge.undoable(Made::busy, x -> x.pull(arm));
            }
        });
        Edge.of(6, "`arm`: 0 to 3", () -> {
            for (int arm = 0; arm < 4; arm++) {
                RestedArms arms = new RestedArms();
                arms.pull(arm);
                Check.due("the last one", arms.count(2), arm);
                for (int some = 0; some < 4; some++) {
                    Check.due("pulls of " + some, arms.arm(some, 1), some == arm ? 1 : 0);
                }
            }
        });
        Edge.of(6, "Returns its state then.", () -> {
            RestedArms arms = Made.told("3a=0>db8;3d=0>ab0");
            Check.due("the good one", arms.pull(3), 3);
            Check.due("the bad one", arms.pull(3), 1);
            Check.due("itself", arms.pull(3), 1);
            Check.due("not the others'", arms.pull(0), 0);
        });
        Edge.of(6, "Throws `IndexOutOfBoundsException` if there is no such arm", () -> {
            for (int no : Edge.beside(0, 3)) {
                Edge.refusedAlways(Edge.BOUNDS, x -> x.pull(no));
            }
        });
    }

    private static void pullLimit() {
        Edge.of(6, "Throws `IllegalStateException` if 9999 pulls were made since the beginning", () -> {
            RestedArms arms = Made.pulled(9998);
            arms.pull(1);
            Check.due("the last one that is allowed", arms.count(0), 9999);
            for (int i = 0; i < 4; i++) {
                int arm = i;
                Edge.refused(Edge.STATE, Made::atLimit, x -> x.pull(arm));
                Edge.refused(Edge.STATE, () -> alone(arm), x -> x.pull(arm));
            }
            arms.undo();
            arms.pull(2);
            Check.due("the last one behind an undo", arms.count(0), 9999);
            arms.begin(1);
            arms.pull(2);
            Check.due("the first one behind a begin", arms.count(0), 1);
            arms.undo();
            arms.undo();
            Check.due("the limit again behind the undo of begin", arms.count(0), 9999);
        });
        Edge.of(6, "Exceptions", FIRST_NAMED, () -> {
            Edge.refused(Edge.BOUNDS, Made::atLimit, x -> x.pull(-1));
            Edge.refused(Edge.BOUNDS, Made::atLimit, x -> x.pull(4));
        });
    }

    /** 9999 pulls, all of this arm. */
    private static RestedArms alone(int arm) {
        RestedArms arms = new RestedArms();
        arms.gift(arm, 0, 1);
        for (int i = 0; i < 101; i++) {
            arms.play(1, 99);
        }
        Check.due("pulls of " + arm, arms.arm(arm, 1), 9999);
        return arms;
    }

    private static void brought() {
        Edge.of(6, "Pulls", "A pull of an arm brings 1000 times the gift of its state, less 1000 times setting 2,"
                + " if another arm was pulled last (with the first pull none was).", () -> {
            for (int arm = 0; arm < 4; arm++) {
                RestedArms arms = Made.told("0a=99;1a=99;2a=99;3a=99");
                arms.set(2, 99);
                arms.pull(arm);
                Check.due("the first pull, of " + arm, arms.sum(0), 99000);
                arms.begin(1);
                arms.pull(arm);
                Check.due("the first pull behind begin, of " + arm, arms.sum(0), 99000);
                arms.pull(arm);
                Check.due("the same one again", arms.sum(0), 99000 + 89100);
                arms.pull((arm + 1) % 4);
                Check.due("another one", arms.sum(0), 99000 + 89100);
                Check.due("the changes", arms.count(1), 1);
            }
            RestedArms least = new RestedArms();
            least.set(2, 99);
            least.pull(0);
            least.pull(3);
            Check.due("the least that a pull brings", least.sum(0), -89100);
        });
        Edge.of(6, "Pulls", "That, times a weight, divided by 1000000, is added to what was brought so far", () -> {
            // With the discount 1 the weights are 1000000, 10000, 100, 1, 0.
            RestedArms above = Made.told("0a=1");
            above.set(0, 1);
            long[] due = {1000, 1010, 1010, 1010, 1010};
            for (int pull = 0; pull < due.length; pull++) {
                above.pull(0);
                Check.due("above 0, behind the pull " + pull, above.sum(0), due[pull]);
            }
        });
        Edge.of(6, "Terms", "divisions are rounded down, also below 0 (to the next lesser whole one)", () -> {
            RestedArms below = new RestedArms();
            below.set(0, 1);
            below.set(2, 1);
            long[] due = {0, -10, -11, -12, -12};
            for (int pull = 0; pull < due.length; pull++) {
                below.pull(pull % 2);
                Check.due("below 0, behind the pull " + pull, below.sum(0), due[pull]);
            }
        });
    }

    private static void weight() {
        Edge.of(6, "Pulls", "the weight is 1000000 at first, and becomes weight times setting 0, divided by 100,"
                + " behind each pull.", () -> {
            RestedArms none = new RestedArms();
            none.set(0, 0);
            none.pull(0);
            Check.due("with the least discount", none.sum(1), 0);
            none.set(0, 99);
            none.pull(0);
            Check.due("it stays 0", none.sum(1), 0);
            RestedArms most = new RestedArms();
            most.set(0, 99);
            most.pull(0);
            Check.due("with the greatest discount", most.sum(1), 990000);
            most.set(0, 1);
            most.pull(0);
            most.pull(0);
            Check.due("two pulls more", most.sum(1), 99);
            most.set(0, 50);
            most.pull(0);
            Check.due("half of 99", most.sum(1), 49);
            most.set(0, 2);
            most.pull(0);
            Check.due("less than one", most.sum(1), 0);
        });
    }

    private static void row() {
        Edge.of(6, "Pulls", "To draw a chance: x becomes x * 6364136223846793005L + 1442695040888963407L (with"
                + " overflow)", () -> {
            long[] rows = {1, 0, -1, Long.MAX_VALUE, Long.MIN_VALUE, Made.ahead(0), Made.ahead(-1),
                Made.ahead(Long.MAX_VALUE), Made.ahead(Long.MIN_VALUE)};
            for (long x : rows) {
                RestedArms arms = new RestedArms();
                arms.begin(x);
                arms.pull(0);
                Check.due("x behind " + x, arms.sum(2), Made.next(x));
                arms.pull(3);
                Check.due("x behind two pulls from " + x, arms.sum(2), Made.next(x, 2));
            }
            RestedArms arms = new RestedArms();
            arms.begin(Made.ahead(Long.MAX_VALUE));
            arms.pull(0);
            Check.due("the greatest x", arms.sum(2), Long.MAX_VALUE);
            arms.begin(Made.ahead(Long.MIN_VALUE));
            arms.pull(0);
            Check.due("the least x", arms.sum(2), Long.MIN_VALUE);
        });
        Edge.of(6, "Pulls", "the chance is (int) (x >>> 61), 0 to 7.", () -> {
            for (long drawn = 0; drawn < 8; drawn++) {
                Check.due("the least x of " + drawn, drawnBy(drawn << 61), drawn);
                Check.due("the greatest x of " + drawn, drawnBy((drawn << 61) + 0x1FFFFFFFFFFFFFFFL), drawn);
            }
        });
    }

    /** How many of the chances 0 to 8 are not enough for the good state, less one: that is what was drawn. */
    private static int drawnBy(long x) {
        int enough = 0;
        for (int chance = 0; chance <= 8; chance++) {
            RestedArms arms = new RestedArms();
            arms.way(0, 0, 1, 2, chance);
            arms.begin(Made.ahead(x));
            enough += arms.pull(0) == 1 ? 1 : 0;
        }
        return 8 - enough;
    }

    private static void goingOn() {
        Edge.of(6, "Pulls", "Then a chance is drawn, and the arm goes on: to the good state if the drawn one is"
                + " less than the chance of its state, otherwise to the bad one.", () -> {
            for (int chance = 0; chance <= 8; chance++) {
                for (long drawn = 0; drawn < 8; drawn++) {
                    RestedArms arms = new RestedArms();
                    arms.way(1, 0, 2, 3, chance);
                    arms.begin(Made.ahead(drawn << 61));
                    Check.due("drawn " + drawn + ", with the chance " + chance, arms.pull(1), drawn < chance ? 2 : 3);
                    Check.due("the row behind it", arms.sum(2), drawn << 61);
                }
            }
        });
        Edge.of(6, "Arms", "When an arm goes on, it comes to the good state with the chance in 8, otherwise to the"
                + " bad one.", () -> {
            RestedArms arms = Made.told("0a=0>ba8;0b=0>ba0");
            for (int pull = 1; pull <= 200; pull++) {
                Check.due("by 8 the good one, by 0 the bad one", arms.pull(0), pull % 2);
            }
        });
        Edge.of(6, "Arms", "An arm is in one of its states", () -> {
            RestedArms arms = Made.told("0a=3;0d=77");
            arms.put(0, 3);
            arms.pull(0);
            Check.due("the gift of the state that it was in", arms.sum(0), 77000);
            RestedArms goes = Made.told("0a=3>dd4;0d=77");
            goes.pull(0);
            Check.due("not of the one that it comes to", goes.sum(0), 3000);
        });
    }

    private static void rests() {
        Edge.of(6, "Pulls", "Then, with setting 3 as 1, for each other arm by ascending numbers, a chance is drawn,"
                + " and it goes on likewise (it rests, and goes on all the same).", () -> {
            long x = 1;
            for (int due : FROM_ONE) {
                x = Made.next(x);
                Check.due("a chance from x = 1", Made.drawn(x), due);
            }
            int[][] order = {{0, 1, 2, 3}, {1, 0, 2, 3}, {2, 0, 1, 3}, {3, 0, 1, 2}};
            for (int arm = 0; arm < 4; arm++) {
                for (int chance = 0; chance <= 8; chance++) {
                    RestedArms arms = alike(chance);
                    arms.set(3, 1);
                    Check.due("the answer", arms.pull(arm), FROM_ONE[0] < chance ? 1 : 2);
                    for (int place = 0; place < 4; place++) {
                        Check.due("with the chance " + chance + " the arm " + order[arm][place] + " behind a pull"
                                + " of " + arm,
                                arms.arm(order[arm][place], 0), FROM_ONE[place] < chance ? 1 : 2);
                    }
                    Check.due("four chances are drawn", arms.sum(2), x);
                    Check.due("one pull", arms.count(0), 1);
                }
            }
        });
        Edge.of(6, "Settings", "3: 1 if resting arms go on, otherwise 0", () -> {
            RestedArms arms = alike(8);
            arms.pull(1);
            Check.due("no other goes on", arms.arm(0, 0) + arms.arm(2, 0) + arms.arm(3, 0), 0);
            Check.due("one chance is drawn", arms.sum(2), Made.next(1));
            arms.set(3, 1);
            arms.set(3, 0);
            arms.pull(1);
            Check.due("no other goes on, again", arms.arm(0, 0) + arms.arm(2, 0) + arms.arm(3, 0), 0);
        });
    }

    /** All arms go from their state a to b or c by this chance. */
    private static RestedArms alike(int chance) {
        RestedArms arms = new RestedArms();
        for (int arm = 0; arm < 4; arm++) {
            arms.way(arm, 0, 1, 2, chance);
        }
        return arms;
    }

    private static void play() {
        Edge.of(7, "Pulls arms by a rule.", () -> {
            for (int rule = 0; rule < 3; rule++) {
                RestedArms played = Made.busy();
                RestedArms pulled = Made.busy();
                played.play(rule, 99);
                for (int pull = 0; pull < 99; pull++) {
                    pulled.pull(pulled.choice(rule));
                }
                for (int what = 0; what < 3; what++) {
                    Check.due("count " + what + " by the rule " + rule, played.count(what), pulled.count(what));
                    Check.due("sum " + what + " by the rule " + rule, played.sum(what), pulled.sum(what));
                }
                for (int arm = 0; arm < 4; arm++) {
                    Check.due("state of " + arm + " by the rule " + rule, played.arm(arm, 0), pulled.arm(arm, 0));
                    Check.due("pulls of " + arm + " by the rule " + rule, played.arm(arm, 1), pulled.arm(arm, 1));
                }
            }
        });
        Edge.of(7, "Undoable, as one call.", () -> {
            for (int i = 0; i < 3; i++) {
                int rule = i;
                Edge.undoable(Made::fresh, x -> x.play(rule, 1));
                Edge.undoable(Made::fresh, x -> x.play(rule, 99));
                Edge.undoable(Made::busy, x -> x.play(rule, 1));
                Edge.undoable(Made::busy, x -> x.play(rule, 99));
            }
        });
        Edge.of(7, "Returns how often another arm is pulled than the one ahead (for the first one: than the one"
                + " that was pulled last, if there is one).", () -> {
            RestedArms arms = new RestedArms();
            Check.due("none at all", arms.play(0, 99), 0);
            arms.begin(1);
            Check.due("the first one of all", arms.play(2, 1), 0);
            Check.due("the first one of a play", arms.play(2, 1), 1);
            Check.due("each one", arms.play(2, 99), 99);
            Check.due("all so far", arms.count(1), 100);
            Check.due("none of a play", arms.play(1, 99), 0);
            Check.due("all so far as before", arms.count(1), 100);
            arms.begin(1);
            Check.due("each one but the first of all", arms.play(2, 99), 98);
        });
    }

    private static void playArguments() {
        Edge.of(7, "`rule`: 0 to 2", () -> {
            // By the index the arm 1 is the best, by the gift the arm 2, in the circle comes the arm 3.
            RestedArms arms = Made.told("0a=1;1a=2>bb8;1b=99;2a=3;3a=1");
            arms.pull(2);
            int[] due = {1, 2, 3};
            for (int rule = 0; rule < 3; rule++) {
                arms.play(rule, 1);
                Check.due("pulled by the rule " + rule, arms.count(2), due[rule]);
                arms.undo();
            }
        });
        Edge.of(7, "`pulls`: 1 to 99", () -> {
            RestedArms arms = new RestedArms();
            arms.play(1, 1);
            Check.due("the least", arms.count(0), 1);
            arms.play(1, 99);
            Check.due("the greatest", arms.count(0), 100);
        });
        Edge.of(7, "Throws `IllegalArgumentException` if an argument is out of range", () -> {
            for (int no : Edge.beside(0, 2)) {
                Edge.refusedAlways(Edge.ARGUMENT, x -> x.play(no, 1));
            }
            for (int no : Edge.beside(1, 99)) {
                Edge.refusedAlways(Edge.ARGUMENT, x -> x.play(2, no));
            }
            Edge.refusedAlways(Edge.ARGUMENT, x -> x.play(3, 0));
        });
    }

    private static void playLimit() {
        Edge.of(7, "Throws `IllegalStateException` if more than 9999 pulls would have been made since the"
                + " beginning", () -> {
            int[] pulls = {1, 2, 50, 98, 99};
            for (int i = 0; i < pulls.length; i++) {
                int some = pulls[i];
                RestedArms arms = Made.pulled(9999 - some);
                arms.play(i % 3, some);
                Check.due("9999 with the last " + some, arms.count(0), 9999);
                Edge.refused(Edge.STATE, () -> Made.pulled(10000 - some), x -> x.play(2, some));
                Edge.refused(Edge.STATE, Made::atLimit, x -> x.play(1, some));
            }
            RestedArms anew = Made.atLimit();
            anew.begin(1);
            anew.play(0, 99);
            Check.due("pulls since the beginning", anew.count(0), 99);
        });
        Edge.of(7, "Exceptions", FIRST_NAMED, () -> {
            Edge.refused(Edge.ARGUMENT, Made::atLimit, x -> x.play(0, 100));
            Edge.refused(Edge.ARGUMENT, Made::atLimit, x -> x.play(0, 0));
            Edge.refused(Edge.ARGUMENT, Made::atLimit, x -> x.play(3, 99));
            Edge.refused(Edge.ARGUMENT, Made::atLimit, x -> x.play(-1, 1));
        });
    }

    private static void begin() {
        Edge.of(8, "`chances`: the long x from now on", () -> {
            for (long x : new long[] {Long.MIN_VALUE, Long.MIN_VALUE + 1, -1, 0, 1, Long.MAX_VALUE}) {
                RestedArms arms = Made.busy();
                arms.begin(x);
                Check.due("x", arms.sum(2), x);
                arms.pull(0);
                Check.due("x behind a pull", arms.sum(2), Made.next(x));
            }
        });
        Edge.of(8, "the row of chances begins with a number.", () -> {
            RestedArms arms = alike(4);
            arms.begin(1);
            Check.due("the first chance is drawn behind it", arms.pull(0), FROM_ONE[0] < 4 ? 1 : 2);
            arms.begin(Made.next(1));
            Check.due("the second one", arms.pull(0), FROM_ONE[1] < 4 ? 1 : 2);
        });
        Edge.of(8, "Returns how many pulls were made since the beginning.", () -> {
            RestedArms arms = new RestedArms();
            Check.due("without pulls", arms.begin(7), 0);
            Check.due("again without pulls", arms.begin(7), 0);
            arms.pull(3);
            Check.due("with one", arms.begin(7), 1);
            Check.due("those before count no more", arms.begin(7), 0);
            Check.due("the most", Made.atLimit().begin(7), 9999);
        });
        Edge.of(8, "Undoable.", () -> {
            Edge.undoable(Made::fresh, x -> x.begin(1));
            Edge.undoable(Made::busy, x -> x.begin(Long.MIN_VALUE));
            Edge.undoable(Made::busy, x -> x.begin(x.sum(2)));
            RestedArms arms = Made.atLimit();
            arms.begin(1);
            arms.undo();
            Edge.same("behind the undo at the limit", onlyLast(arms), onlyLast(Made.atLimit()));
        });
    }

    /** The same arms, without what was saved before, as far as a digest tells. */
    private static RestedArms onlyLast(RestedArms arms) {
        for (int i = 0; i < 6; i++) {
            arms.put(0, arms.arm(0, 0));
        }
        return arms;
    }

    private static void beginsAnew() {
        Edge.of(8, "Begins anew: all arms are in their state 0, nothing was pulled or brought, the weight is"
                + " 1000000", () -> {
            RestedArms arms = Made.busy();
            for (int arm = 0; arm < 4; arm++) {
                arms.put(arm, 3);
            }
            arms.begin(11);
            long[] counts = {0, 0, RestedArms.NONE, 6};
            for (int what = 0; what < 4; what++) {
                Check.due("count " + what, arms.count(what), counts[what]);
                Check.due("state of " + what, arms.arm(what, 0), 0);
                Check.due("pulls of " + what, arms.arm(what, 1), 0);
            }
            Check.due("brought", arms.sum(0), 0);
            Check.due("weight", arms.sum(1), 1000000);
            Check.due("share", arms.evenness(), 1.0);
            Check.due("gifts stay", arms.stateOf(0, 1, 0), 90);
            Check.due("ways stay", arms.way(0, 1, 0, 0, 0), 232);
            Check.due("settings stay", arms.setting(2), 3);
            Check.due("the buffer stays", arms.clearBuffer(), 3);
            arms.set(2, 99);
            arms.pull(3);
            Check.due("the first pull is no change", arms.sum(0), 30000);
        });
        Edge.of(8, "Pulls", "by the rule 2 the arm behind the one that was pulled last, in a circle, the arm 0 at"
                + " first.", () -> {
            RestedArms arms = Made.busy();
            Check.due("before", arms.choice(2), 3);
            arms.begin(1);
            Check.due("at first again", arms.choice(2), 0);
        });
    }
}
