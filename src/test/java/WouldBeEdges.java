import java.math.BigInteger;

/** The sentences of the promises 20 to 25: what would be, by which nothing is changed. */
final class WouldBeEdges {
    private static final int[] RULES = {0, 1, 2};

    private WouldBeEdges() {
    }

    static void all() {
        choice();
        choiceByIndex();
        choiceByGift();
        choiceInACircle();
        choiceOfSeveral();
        ifPlayed();
        ifPlayedEdges();
        bestRule();
        giftFor();
        giftForEdges();
        evenness();
        digest();
    }

    private static void choice() {
        Edge.of(20, "Tells which arm a rule chooses.", () -> {
            for (int i : RULES) {
                Edge.onlyLooks(Made::busy, x -> x.choice(i));
                Edge.onlyLooks(Made::atLimit, x -> x.choice(i));
            }
        });
        Edge.of(20, "`rule`: 0 to 2", () -> {
            // By the index the arm 1 is the best, by the gift the arm 2, in the circle comes the arm 3.
            RestedArms arms = Made.told("0a=1;1a=2>bb8;1b=99;2a=3;3a=1");
            arms.pull(2);
            int[] due = {1, 2, 3};
            for (int rule : RULES) {
                Check.due("by the rule " + rule, arms.choice(rule), due[rule]);
            }
        });
        Edge.of(20, "Returns the arm.", () -> {
            for (int arm = 0; arm < 4; arm++) {
                RestedArms arms = new RestedArms();
                arms.gift(arm, 0, 1);
                Check.due("by the index", arms.choice(0), arm);
                Check.due("by the gift", arms.choice(1), arm);
            }
        });
        Edge.of(20, "Throws `IllegalArgumentException` if rule is out of range", () -> {
            for (int no : Edge.beside(0, 2)) {
                Edge.refusedAlways(Edge.ARGUMENT, x -> x.choice(no));
            }
        });
    }

    /** The arm 0 was pulled last and gives the one gift, the arm 1 the other one; an index is that of one round. */
    private static RestedArms two(int stays, int leaves, int discount, int cost) {
        RestedArms arms = new RestedArms();
        arms.gift(0, 0, stays);
        arms.gift(1, 0, leaves);
        arms.set(0, discount);
        arms.set(1, 1);
        arms.set(2, cost);
        arms.pull(0);
        return arms;
    }

    private static void choiceByIndex() {
        Edge.of(20, "Pulls", "By the rule 0, the arm is pulled whose state has the greatest index, which counts"
                + " less by 10 times setting 2 times (100 less setting 0), if it is not the arm that was pulled"
                + " last (and there is one)", () -> {
            for (int discount : new int[] {0, 1, 50, 90, 99}) {
                // An index of one round is 10 times (100 less the discount) times the gift, in the measure of the cost.
                Check.due("worth no more than the cost", two(10, 15, discount, 5).choice(0), 0);
                Check.due("worth more than the cost", two(10, 15, discount, 4).choice(0), 1);
                Check.due("worth less than the cost", two(10, 15, discount, 6).choice(0), 0);
                Check.due("no cost", two(10, 11, discount, 0).choice(0), 1);
                Check.due("the greatest cost", two(0, 99, discount, 99).choice(0), 0);
                Check.due("the greatest cost but one", two(0, 99, discount, 98).choice(0), 1);
                Check.due("less than nothing", two(0, 1, discount, 99).choice(0), 0);
            }
        });
        Edge.of(20, "Pulls", "if it is not the arm that was pulled last (and there is one)", () -> {
            RestedArms arms = two(10, 11, 50, 99);
            Check.due("there is one", arms.choice(0) + 10 * arms.choice(1), 0);
            arms.begin(1);
            Check.due("there is none", arms.choice(0) + 10 * arms.choice(1), 11);
        });
        Edge.of(20, "Pulls", "whose state has the greatest index", () -> {
            RestedArms arms = Made.told("3b=5;2c=4");
            Check.due("no arm is in a state that gives", arms.choice(0), 0);
            arms.put(2, 2);
            Check.due("one is", arms.choice(0), 2);
            arms.put(3, 1);
            Check.due("two are", arms.choice(0), 3);
        });
    }

    private static void choiceByGift() {
        Edge.of(20, "Pulls", "by the rule 1 the arm whose state has the greatest gift, which counts less by setting"
                + " 2 likewise", () -> {
            Check.due("worth no more than the cost", two(10, 15, 90, 5).choice(1), 0);
            Check.due("worth more than the cost", two(10, 15, 90, 4).choice(1), 1);
            Check.due("worth less than the cost", two(10, 15, 90, 6).choice(1), 0);
            Check.due("the greatest cost", two(0, 99, 90, 99).choice(1), 0);
            Check.due("the greatest cost but one", two(0, 99, 90, 98).choice(1), 1);
            Check.due("less than nothing", two(0, 1, 90, 99).choice(1), 0);
        });
        Edge.of(20, "Pulls", "the arm whose state has the greatest gift", () -> {
            RestedArms arms = Made.told("0a=98;3d=99");
            Check.due("no arm is in the state", arms.choice(1), 0);
            arms.put(3, 3);
            Check.due("one is", arms.choice(1), 3);
        });
    }

    private static void choiceInACircle() {
        Edge.of(20, "Pulls", "by the rule 2 the arm behind the one that was pulled last, in a circle, the arm 0 at"
                + " first.", () -> {
            RestedArms arms = Made.told("2a=99");
            Check.due("at first", arms.choice(2), 0);
            for (int arm = 0; arm < 4; arm++) {
                arms.pull(arm);
                Check.due("behind " + arm, arms.choice(2), arm == 3 ? 0 : arm + 1);
            }
            arms.set(2, 99);
            Check.due("at any cost", arms.choice(2), 0);
            arms.begin(1);
            Check.due("at first again", arms.choice(2), 0);
        });
    }

    private static void choiceOfSeveral() {
        Edge.of(20, "Pulls", "Of several it is always the arm that was pulled last, if it is among them, otherwise"
                + " the lowest one.", () -> {
            for (int best = 1; best < 16; best++) {
                for (int last = RestedArms.NONE; last < 4; last++) {
                    RestedArms arms = new RestedArms();
                    for (int arm = 0; arm < 4; arm++) {
                        arms.gift(arm, 0, (best >> arm & 1) == 1 ? 7 : 3);
                    }
                    if (last != RestedArms.NONE) {
                        arms.pull(last);
                    }
                    boolean among = last != RestedArms.NONE && (best >> last & 1) == 1;
                    int due = among ? last : Integer.numberOfTrailingZeros(best);
                    Check.due("by the index, of " + best + " behind " + last, arms.choice(0), due);
                    Check.due("by the gift, of " + best + " behind " + last, arms.choice(1), due);
                }
            }
        });
    }

    private static void ifPlayed() {
        Edge.of(21, "Tells what a play would bring.", () -> {
            for (int rule : RULES) {
                Edge.onlyLooks(Made::fresh, x -> x.ifPlayed(rule, 99));
                Edge.onlyLooks(Made::busy, x -> x.ifPlayed(rule, 1));
                Edge.onlyLooks(Made::savedFull, x -> x.ifPlayed(rule, 99));
                Edge.onlyLooks(Made::atLimit, x -> x.ifPlayed(rule, 99));
            }
        });
        Edge.of(21, "`rule`: 0 to 2", () -> {
            RestedArms arms = Made.told("0a=1;1a=2>bb8;1b=99;2a=3;3a=4");
            arms.pull(2);
            arms.gift(3, 0, 1);
            arms.set(0, 99);
            arms.begin(1);
            arms.put(1, 0);
            int[] due = {2000, 3000, 1000};
            for (int rule : RULES) {
                Check.due("by the rule " + rule, arms.ifPlayed(rule, 1), due[rule]);
            }
        });
        Edge.of(21, "`pulls`: 1 to 99", () -> {
            RestedArms arms = Made.told("0a=10");
            arms.set(0, 0);
            Check.due("the least", arms.ifPlayed(0, 1), 10000);
            Check.due("the greatest", arms.ifPlayed(0, 99), 10000);
            arms.set(0, 99);
            long weight = 1000000;
            long due = 0;
            for (int pull = 1; pull <= 99; pull++) {
                due += 10000 * weight / 1000000;
                weight = weight * 99 / 100;
                Check.due("of the pulls " + pull, arms.ifPlayed(1, pull), due);
            }
        });
        Edge.of(21, "Throws `IllegalArgumentException` if an argument is out of range", () -> {
            for (int no : Edge.beside(0, 2)) {
                Edge.refusedAlways(Edge.ARGUMENT, x -> x.ifPlayed(no, 1));
            }
            for (int no : Edge.beside(1, 99)) {
                Edge.refusedAlways(Edge.ARGUMENT, x -> x.ifPlayed(2, no));
            }
        });
    }

    private static void ifPlayedEdges() {
        Edge.of(21, "Returns by how much what was brought would become greater", () -> {
            for (int rule : RULES) {
                RestedArms arms = Made.savedFull();
                for (int pulls : new int[] {1, 2, 50, 99}) {
                    long would = arms.ifPlayed(rule, pulls);
                    long had = arms.sum(0);
                    arms.play(rule, pulls);
                    Check.due("by the rule " + rule + ", pulls " + pulls, arms.sum(0) - had, would);
                }
            }
            RestedArms less = new RestedArms();
            less.set(2, 99);
            Check.due("the first pull of all is no change", less.ifPlayed(2, 1), 0);
            Check.due("less than nothing", less.ifPlayed(2, 2), -89100);
            less.pull(0);
            Check.due("not with what was brought before", less.ifPlayed(2, 1), -89100);
        });
        Edge.of(21, "(the limit of 9999 does not matter)", () -> {
            for (int rule : RULES) {
                for (int pulls : new int[] {1, 99}) {
                    Check.due("behind all pulls", Made.atLimit().ifPlayed(rule, pulls), 0);
                    Check.due("behind all but one", Made.pulled(9998).ifPlayed(rule, pulls), 0);
                    Check.due("behind some", Made.pulled(9901).ifPlayed(rule, pulls), 0);
                }
            }
            Check.due("nor by the best rule", Made.atLimit().bestRule(99), 0);
            Edge.onlyLooks(Made::atLimit, RestedArms::digest);
        });
    }

    private static void bestRule() {
        Edge.of(22, "Finds the best rule.", () -> {
            Edge.onlyLooks(Made::busy, x -> x.bestRule(99));
            Edge.onlyLooks(Made::atLimit, x -> x.bestRule(1));
        });
        Edge.of(22, "`pulls`: 1 to 99", () -> {
            // The arm 0 gives 1 and then 90 for ever, which only its index tells.
            RestedArms arms = Made.told("0a=1>bb8;0b=90>bb8;1a=2");
            Check.due("the least", arms.bestRule(1), 1);
            Check.due("the least but one", arms.bestRule(2), 0);
            Check.due("the greatest", arms.bestRule(99), 0);
            // Pulling in a circle, only the 8th pull comes to the state that gives 93, and each one costs.
            int[] due = {0, 2, 0};
            for (int pulls = 7; pulls <= 9; pulls++) {
                Check.due("of the pulls " + pulls, eighth().bestRule(pulls), due[pulls - 7]);
            }
        });
        Edge.of(22, "Returns the rule with the greatest ifPlayed, of several the lowest.", () -> {
            Check.due("all are equal", new RestedArms().bestRule(1), 0);
            Check.due("all are equal, long", new RestedArms().bestRule(99), 0);
            RestedArms lastTwo = Made.told("0a=1>bb8;0b=90>bb8;1a=2");
            lastTwo.pull(0);
            lastTwo.put(0, 0);
            Check.due("the last two are equal", lastTwo.ifPlayed(1, 1), lastTwo.ifPlayed(2, 1));
            Check.due("the lower of the last two", lastTwo.bestRule(1), 1);
            RestedArms firstTwo = Made.told("0a=1;1a=2");
            Check.due("the first two are equal", firstTwo.ifPlayed(0, 5), firstTwo.ifPlayed(1, 5));
            Check.due("the lower of the first two", firstTwo.bestRule(5), 0);
            RestedArms ends = Made.told("0a=1>bb8;0b=90>bb8;1a=2");
            ends.pull(3);
            Check.due("the first and the last one are equal", ends.ifPlayed(0, 1), ends.ifPlayed(2, 1));
            Check.due("but the one between is greater", ends.bestRule(1), 1);
            RestedArms less = Made.told("0a=1;1a=9");
            less.set(2, 99);
            less.play(2, 4);
            Check.due("the greatest of what is less than nothing", less.ifPlayed(2, 9) < 0);
            Check.due("is nothing", less.bestRule(9), 0);
        });
        Edge.of(22, "Throws `IllegalArgumentException` if pulls is out of range", () -> {
            for (int no : Edge.beside(1, 99)) {
                Edge.refusedAlways(Edge.ARGUMENT, x -> x.bestRule(no));
            }
        });
    }

    private static RestedArms eighth() {
        RestedArms arms = Made.told("0a=10;3a=1>bb8;3b=93");
        arms.set(1, 1);
        arms.set(2, 1);
        return arms;
    }

    private static void giftFor() {
        Edge.of(23, "Finds the least gift for which a state is worth more.", () -> {
            for (int slot = 0; slot < 16; slot++) {
                int some = slot;
                Edge.onlyLooks(Made::busy, x -> x.giftFor(some / 4, some % 4));
                Edge.onlyLooks(Made::atLimit, x -> x.giftFor(some / 4, some % 4));
            }
        });
        Edge.of(23, "`arm`: 0 to 3", () -> {
            RestedArms arms = Made.told("1a=40");
            Check.due("the least", arms.giftFor(0, 0), 40);
            Check.due("the greatest", arms.giftFor(3, 0), 41);
        });
        Edge.of(23, "`state`: 0 to 3", () -> {
            RestedArms arms = Made.told("1a=40;0a=5>bb8;0b=60;0d=7>cc8;0c=20");
            for (int state = 0; state < 4; state++) {
                RestedArms put = Made.told("1a=40;0a=5>bb8;0b=60;0d=7>cc8;0c=20");
                put.put(0, state);
                Check.due("of the state " + state, arms.giftFor(0, state), byTrial(put, 0, state));
            }
        });
        Edge.of(23, "Throws `IndexOutOfBoundsException` if there is no such arm or state", () -> {
            for (int no : Edge.beside(0, 3)) {
                Edge.refusedAlways(Edge.BOUNDS, x -> x.giftFor(no, 3));
                Edge.refusedAlways(Edge.BOUNDS, x -> x.giftFor(3, no));
            }
        });
    }

    /** Gives the state, which the arm is in, one gift after the other until the rule 0 chooses the arm. */
    private static int byTrial(RestedArms arms, int arm, int state) {
        for (int gift = 0; gift <= 99; gift++) {
            arms.gift(arm, state, gift);
            if (arms.choice(0) == arm) {
                return gift;
            }
        }
        return RestedArms.NONE;
    }

    private static void giftForEdges() {
        Edge.of(23, "Returns the least gift of this state, 0 to 99, with which the rule 0 would choose this arm, if"
                + " it was in this state; NONE if there is none.", () -> {
            Check.due("the least gift", new RestedArms().giftFor(0, 0), 0);
            Check.due("the least gift but one", new RestedArms().giftFor(1, 0), 1);
            Check.due("the greatest gift", Made.told("0a=98").giftFor(1, 0), 99);
            Check.due("none", Made.told("0a=99").giftFor(1, 0), RestedArms.NONE);
            Check.due("the greatest gift of the lowest arm", Made.told("1a=99").giftFor(0, 0), 99);
            Check.due("its own gift does not matter", Made.told("0a=30;1a=99").giftFor(1, 0), 31);
            Check.due("nor that of the state that it is in", Made.told("0a=30;1a=99").giftFor(1, 2), 31);
            Check.due("but a state that it comes to", Made.told("0a=30;1a=0>bb8;1b=99").giftFor(1, 0), 0);
            for (int gift = 0; gift <= 99; gift++) {
                Check.due("not below " + gift, Made.told("2a=" + gift).giftFor(1, 3), Math.max(gift, 1));
                int above = gift == 99 ? RestedArms.NONE : gift + 1;
                Check.due("above " + gift, Made.told("2a=" + gift).giftFor(3, 3), above);
            }
        });
        Edge.of(23, "with which the rule 0 would choose this arm", () -> {
            RestedArms last = Made.told("0a=30;1a=30");
            last.pull(2);
            Check.due("the one that was pulled last may be equal", last.giftFor(2, 1), 30);
            last.set(1, 1);
            last.set(2, 5);
            Check.due("and keeps what a change costs", last.giftFor(2, 1), 25);
            Check.due("all others cost the same", last.giftFor(3, 1), 31);
            last.set(2, 99);
            Check.due("it stays in any case", last.giftFor(2, 1), 0);
            last.gift(2, 0, 0);
            Check.due("another one does not come", last.giftFor(3, 1), RestedArms.NONE);
            last.set(2, 98);
            last.gift(0, 0, 0);
            last.gift(1, 0, 0);
            Check.due("or by the greatest gift alone", last.giftFor(3, 1), 99);
        });
    }

    private static void evenness() {
        Edge.of(24, "Returns how evenly the arms were pulled.", () -> {
            Edge.onlyLooks(Made::fresh, RestedArms::evenness);
            Edge.onlyLooks(Made::atLimit, RestedArms::evenness);
        });
        Edge.of(24, "Returns the least number of pulls of an arm since the beginning, as a double, divided by the"
                + " greatest one; 1.0 without pulls.", () -> {
            RestedArms arms = new RestedArms();
            Check.due("without pulls", arms.evenness(), 1.0);
            arms.play(2, 1);
            Check.due("one pull", arms.evenness(), 0.0);
            arms.play(2, 2);
            Check.due("three arms pulled", arms.evenness(), 0.0);
            arms.play(2, 1);
            Check.due("all once", arms.evenness(), 1.0);
            arms.play(2, 1);
            Check.due("one of them twice", arms.evenness(), 0.5);
            Check.due("of the most pulls", Made.atLimit().evenness(), 2499.0 / 2500.0);
            arms.begin(1);
            Check.due("begun anew", arms.evenness(), 1.0);
            arms.undo();
            Check.due("undone", arms.evenness(), 0.5);
        });
        Edge.of(24, "the least number of pulls of an arm", () -> {
            for (int least = 0; least < 4; least++) {
                for (int most = 0; most < 4; most++) {
                    RestedArms arms = new RestedArms();
                    arms.play(2, 12);
                    for (int arm = 0; arm < 4; arm++) {
                        for (int more = arm == most ? 4 : arm == least ? 0 : 2; more > 0; more--) {
                            arms.pull(arm);
                        }
                    }
                    double due = least == most ? 5.0 / 7.0 : 3.0 / 7.0;
                    Check.due("the least is " + least + ", the most is " + most, arms.evenness(), due);
                }
            }
        });
    }

    private static void digest() {
        Edge.of(25, "Computes a hash of the whole state.", () -> {
            Edge.onlyLooks(Made::savedFull, RestedArms::digest);
            Edge.onlyLooks(() -> Made.typed(Made.row('~', 60)), RestedArms::digest);
        });
        Edge.of(25, "The hash starts at 2843.", () -> Check.due("of a new object",
                new RestedArms().digest(), listed(new RestedArms(), "")));
        Edge.of(25, "For each value v of the following list, in order, the hash becomes 31 * hash + v, in long"
                + " arithmetic with overflow.", () -> {
            Check.due("busy", Made.busy().digest(), listed(Made.busy(), "0a="));
            Check.due("all saved", Made.savedFull().digest(), listed(Made.savedFull(), "0a="));
            Check.due("all pulls", Made.atLimit().digest(), listed(Made.atLimit(), ""));
            for (long x : new long[] {Long.MIN_VALUE, -1, Long.MAX_VALUE}) {
                RestedArms arms = Made.busy();
                arms.begin(x);
                Check.due("with x as " + x, arms.digest(), listed(arms, "0a="));
            }
        });
        Edge.of(25, "The values are: count(0) to count(3); sum(0) to sum(2); the settings 0 to 3; for each arm its"
                + " properties 0 to 3, and for each of its states stateOf with 0 to 4, and the index; for each rule"
                + " choice, and ifPlayed of 5; bestRule of 8; giftFor the arm 1 and its state 0; the bits of"
                + " evenness (as Double.doubleToLongBits); the length of the buffer and each of its character"
                + " codes.", () -> {
            String full = "~!" + Made.row('z', 57) + "0";
            Check.due("a full buffer", Made.typed(full).digest(), listed(new RestedArms(), full));
            Check.due("a buffer of one", Made.typed("!").digest(), listed(new RestedArms(), "!"));
            Check.due("bestRule of 8", eighth().digest(), listed(eighth(), ""));
            for (int gift : new int[] {0, 1, 98, 99}) {
                RestedArms arms = Made.told("0a=" + gift + ";1a=0>bb8;1b=40>bb8;2a=" + gift);
                Check.due("giftFor by " + gift, arms.digest(), listed(arms, ""));
            }
        });
        Edge.of(25, "the bits of evenness (as Double.doubleToLongBits)", () -> {
            for (int most = 1; most <= 90; most++) {
                RestedArms arms = new RestedArms();
                arms.play(2, 4 * (1 + most % 24));
                arms.gift(3, 0, 1);
                arms.play(1, most);
                Check.due("with " + arms.evenness(), arms.digest(), listed(arms, ""));
            }
            RestedArms least = new RestedArms();
            least.play(2, 4);
            least.gift(3, 0, 1);
            for (int play = 0; play < 100; play++) {
                least.play(1, 99);
            }
            least.play(1, 95);
            Check.due("the least share above 0", least.evenness(), 1.0 / 9996.0);
            Check.due("with the least share above 0", least.digest(), listed(least, ""));
        });
        Edge.of(25, "Returns the hash.", () -> {
            RestedArms arms = Made.busy();
            long before = arms.digest();
            arms.append('~');
            Check.due("another one with another buffer", arms.digest() != before);
        });
    }

    /** The hash by the document's list, in numbers that have no overflow until the end. */
    private static long listed(RestedArms arms, String buffer) {
        BigInteger hash = BigInteger.valueOf(2843);
        for (int what = 0; what <= 3; what++) {
            hash = with(hash, arms.count(what));
        }
        for (int what = 0; what <= 2; what++) {
            hash = with(hash, arms.sum(what));
        }
        for (int setting = 0; setting <= 3; setting++) {
            hash = with(hash, arms.setting(setting));
        }
        for (int arm = 0; arm <= 3; arm++) {
            for (int what = 0; what <= 3; what++) {
                hash = with(hash, arms.arm(arm, what));
            }
            for (int state = 0; state <= 3; state++) {
                for (int what = 0; what <= 4; what++) {
                    hash = with(hash, arms.stateOf(arm, state, what));
                }
                hash = with(hash, arms.index(arm, state));
            }
        }
        for (int rule : RULES) {
            hash = with(with(hash, arms.choice(rule)), arms.ifPlayed(rule, 5));
        }
        hash = with(with(hash, arms.bestRule(8)), arms.giftFor(1, 0));
        hash = with(with(hash, Double.doubleToLongBits(arms.evenness())), buffer.length());
        for (int place = 0; place < buffer.length(); place++) {
            hash = with(hash, buffer.charAt(place));
        }
        return hash.longValue();
    }

    private static BigInteger with(BigInteger hash, long value) {
        return hash.multiply(BigInteger.valueOf(31)).add(BigInteger.valueOf(value));
    }
}
