/** The sentences of the promises 1 to 5: a new object, and what is changed of arms. */
final class ArmsEdges {
    private ArmsEdges() {
    }

    static void all() {
        newObject();
        firstNumbers();
        length();
        gift();
        giftRefused();
        way();
        wayRefused();
        put();
        set();
        setRefused();
    }

    private static void newObject() {
        Edge.of(1, "Creates arms that give nothing", () -> {
            for (int slot = 0; slot < 16; slot++) {
                RestedArms arms = new RestedArms();
                arms.put(slot / 4, slot % 4);
                arms.pull(slot / 4);
                Check.due("brought by the slot " + slot, arms.sum(0), 0);
                Check.due("index of the slot " + slot, arms.index(slot / 4, slot % 4), 0);
            }
        });
        Edge.of(1, "none of them pulled", () -> {
            RestedArms arms = new RestedArms();
            Check.due("pulls", arms.count(0), 0);
            Check.due("changes", arms.count(1), 0);
            Check.due("last", arms.count(2), -1);
            for (int arm = 0; arm < 4; arm++) {
                Check.due("pulls of " + arm, arms.arm(arm, 1), 0);
            }
            Check.due("all 9999 pulls are left", Made.atLimit().count(0), 9999);
        });
        Edge.of(1, "with an empty buffer", () -> {
            Check.due("length", new RestedArms().clearBuffer(), 0);
            Check.due("the first sign's place", new RestedArms().append('0'), 1);
            Edge.refused(Edge.ARGUMENT, Made::fresh, RestedArms::read);
        });
        Edge.of(1, "Undo", "Each method that is marked \"undoable\" and does not throw an exception saves the state"
                + " from before it (also if it changes nothing)", () -> {
            Check.due("a new object has saved nothing", new RestedArms().count(3), 0);
            Edge.refused(Edge.STATE, Made::fresh, RestedArms::undo);
        });
    }

    private static void firstNumbers() {
        Edge.of(1, "Arms", "There are 4 arms, numbered from 0, each with 4 states, numbered from 0.", () -> {
            RestedArms arms = new RestedArms();
            for (int slot = 0; slot < 16; slot++) {
                Check.due("gift of the slot " + slot, arms.gift(slot / 4, slot % 4, 80 + slot), 0);
            }
            for (int slot = 0; slot < 16; slot++) {
                Check.due("gift again of the slot " + slot, arms.stateOf(slot / 4, slot % 4, 0), 80 + slot);
            }
            Edge.refusedAlways(Edge.BOUNDS, x -> x.index(4, 3));
            Edge.refusedAlways(Edge.BOUNDS, x -> x.index(3, 4));
        });
        Edge.of(1, "Arms", "A state has a gift, 0 to 99, at first 0; a good state and a bad state, at first both"
                + " itself; and a chance, 0 to 8, at first 4.", () -> {
            RestedArms arms = new RestedArms();
            for (int slot = 0; slot < 16; slot++) {
                int state = slot % 4;
                Check.due("first gift", arms.gift(slot / 4, state, 1), 0);
                Check.due("first way", arms.way(slot / 4, state, 0, 0, 0), 110 * state + 4);
            }
        });
        Edge.of(1, "Arms", "An arm is in one of its states, at first 0.", () -> {
            RestedArms arms = new RestedArms();
            for (int arm = 0; arm < 4; arm++) {
                Check.due("first state of " + arm, arms.put(arm, 3), 0);
            }
        });
        Edge.of(1, "Pulls", "There is a row of chances: a long x, at first 1.",
                () -> Check.due("x", new RestedArms().sum(2), 1));
        Edge.of(1, "Pulls", "the weight is 1000000 at first",
                () -> Check.due("weight", new RestedArms().sum(1), 1000000));
        Edge.of(1, "Settings", "at first 90; 1: the rounds, 1 to 60, at first 20; 2: the cost of changing, 0 to 99,"
                + " at first 0; 3: 1 if resting arms go on, otherwise 0, at first 0.", () -> {
            int[] first = {90, 20, 0, 0};
            for (int setting = 0; setting < 4; setting++) {
                Check.due("first of " + setting, new RestedArms().set(setting, 1), first[setting]);
            }
        });
    }

    private static void length() {
        Edge.of(1, "What it is", "An object is used for at most 512 calls after it has been made; what later calls"
                + " answer is free.", () -> {
            RestedArms arms = new RestedArms();
            for (int call = 1; call <= 511; call++) {
                Check.due("gift by the call " + call, arms.gift(0, 0, call % 100), (call - 1) % 100);
            }
            Check.due("the 512th call", arms.undo(), 5);
            RestedArms dear = Made.atLimit();
            long first = dear.digest();
            for (int call = 110; call <= 512; call++) {
                Check.due("digest by the call " + call, dear.digest(), first);
            }
        });
    }

    private static void gift() {
        Edge.of(2, "Changes the gift of a state.", () -> {
            RestedArms arms = Made.busy();
            arms.gift(3, 3, 99);
            Check.due("it", arms.stateOf(3, 3, 0), 99);
            Check.due("the state ahead", arms.stateOf(3, 2, 0), 0);
            Check.due("the arm ahead", arms.stateOf(2, 3, 0), 0);
            Check.due("its way", arms.way(3, 3, 3, 3, 4), 334);
        });
        Edge.of(2, "Undoable.", () -> {
            for (int gift : new int[] {0, 9, 10, 99}) {
                Edge.undoable(Made::fresh, x -> x.gift(3, 0, gift));
                Edge.undoable(Made::busy, x -> x.gift(0, 0, gift));
            }
        });
        Edge.of(2, "`arm`: 0 to 3", () -> {
            Check.due("the least", sixteen().gift(0, 0, 5), 10);
            Check.due("the greatest", sixteen().gift(3, 0, 5), 40);
        });
        Edge.of(2, "`state`: 0 to 3", () -> {
            Check.due("the least", sixteen().gift(1, 0, 5), 20);
            Check.due("the greatest", sixteen().gift(1, 3, 5), 23);
        });
        Edge.of(2, "`gift`: 0 to 99", () -> {
            RestedArms arms = sixteen();
            arms.gift(2, 2, 99);
            Check.due("the greatest", arms.stateOf(2, 2, 0), 99);
            arms.gift(2, 2, 0);
            Check.due("the least", arms.stateOf(2, 2, 0), 0);
        });
        Edge.of(2, "Returns the previous one.", () -> {
            RestedArms arms = new RestedArms();
            Check.due("at first", arms.gift(0, 3, 99), 0);
            Check.due("the greatest", arms.gift(0, 3, 0), 99);
            Check.due("the least", arms.gift(0, 3, 0), 0);
        });
    }

    private static void giftRefused() {
        Edge.of(2, "Throws `IndexOutOfBoundsException` if there is no such arm or state", () -> {
            for (int no : Edge.beside(0, 3)) {
                Edge.refusedAlways(Edge.BOUNDS, x -> x.gift(no, 3, 1));
                Edge.refusedAlways(Edge.BOUNDS, x -> x.gift(3, no, 1));
            }
        });
        Edge.of(2, "Throws `IllegalArgumentException` if gift is out of range", () -> {
            for (int no : Edge.beside(0, 99)) {
                Edge.refusedAlways(Edge.ARGUMENT, x -> x.gift(3, 3, no));
            }
        });
        Edge.of(2, "Exceptions", "If several exceptions apply, the one that is named first in the throws clause is"
                + " thrown.", () -> {
            Edge.refusedAlways(Edge.BOUNDS, x -> x.gift(4, 0, 100));
            Edge.refusedAlways(Edge.BOUNDS, x -> x.gift(0, -1, -1));
        });
    }

    /** The arm a has in its state s the gift 10 * (a + 1) + s. */
    private static RestedArms sixteen() {
        RestedArms arms = new RestedArms();
        for (int slot = 0; slot < 16; slot++) {
            arms.gift(slot / 4, slot % 4, 10 * (slot / 4 + 1) + slot % 4);
        }
        return arms;
    }

    private static void way() {
        Edge.of(3, "Changes where a state goes on.", () -> {
            RestedArms arms = Made.told("2c=44");
            arms.way(2, 2, 0, 1, 8);
            Check.due("its gift", arms.stateOf(2, 2, 0), 44);
            Check.due("the state ahead", arms.way(2, 1, 0, 0, 0), 114);
            Check.due("the state behind", arms.way(2, 3, 0, 0, 0), 334);
            Check.due("the arm ahead", arms.way(1, 2, 0, 0, 0), 224);
            Check.due("it", arms.way(2, 2, 0, 0, 0), 18);
        });
        Edge.of(3, "Undoable.", () -> {
            Edge.undoable(Made::fresh, x -> x.way(0, 0, 0, 0, 4));
            Edge.undoable(Made::fresh, x -> x.way(3, 3, 0, 0, 0));
            Edge.undoable(Made::busy, x -> x.way(0, 0, 1, 0, 4));
            Edge.undoable(Made::busy, x -> x.way(0, 1, 3, 3, 8));
        });
        Edge.of(3, "`arm`: 0 to 3", () -> {
            Check.due("the least", Made.told("0a=0>bc5").way(0, 0, 0, 0, 0), 125);
            Check.due("the greatest", Made.told("3a=0>bc5").way(3, 0, 0, 0, 0), 125);
        });
        Edge.of(3, "`state`: 0 to 3", () -> {
            Check.due("the least", Made.told("1a=0>bc5").way(1, 0, 0, 0, 0), 125);
            Check.due("the greatest", Made.told("1d=0>bc5").way(1, 3, 0, 0, 0), 125);
        });
        Edge.of(3, "`good`: its good state, 0 to 3", () -> wayHolds(3, 1));
        Edge.of(3, "`bad`: its bad state, 0 to 3", () -> wayHolds(3, 2));
        Edge.of(3, "`chance`: 0 to 8", () -> wayHolds(8, 3));
        Edge.of(3, "Returns 100 times the previous good state, 10 times the previous bad one and the previous"
                + " chance, together.", () -> {
            RestedArms arms = new RestedArms();
            Check.due("at first", arms.way(3, 0, 3, 3, 8), 4);
            Check.due("the greatest", arms.way(3, 0, 0, 0, 0), 338);
            Check.due("the least", arms.way(3, 0, 3, 0, 0), 0);
            Check.due("the good one alone", arms.way(3, 0, 0, 3, 0), 300);
            Check.due("the bad one alone", arms.way(3, 0, 0, 0, 8), 30);
            Check.due("the chance alone", arms.way(3, 0, 0, 0, 0), 8);
        });
    }

    /** Each number from 0 on is told by stateOf behind the call, and nothing else of the state moves. */
    private static void wayHolds(int greatest, int what) {
        for (int number : Edge.from(0, greatest)) {
            RestedArms arms = new RestedArms();
            arms.way(2, 1, what == 1 ? number : 1, what == 2 ? number : 1, what == 3 ? number : 4);
            int[] due = {0, 1, 1, 4};
            due[what] = number;
            for (int property = 0; property < due.length; property++) {
                Check.due("property " + property + " with " + number, arms.stateOf(2, 1, property), due[property]);
            }
        }
    }

    private static void wayRefused() {
        Edge.of(3, "Throws `IndexOutOfBoundsException` if there is no such arm or state (also the good or the bad"
                + " one)", () -> {
            for (int no : Edge.beside(0, 3)) {
                Edge.refusedAlways(Edge.BOUNDS, x -> x.way(no, 0, 1, 1, 1));
                Edge.refusedAlways(Edge.BOUNDS, x -> x.way(0, no, 1, 1, 1));
                Edge.refusedAlways(Edge.BOUNDS, x -> x.way(0, 0, no, 1, 1));
                Edge.refusedAlways(Edge.BOUNDS, x -> x.way(0, 0, 1, no, 1));
            }
        });
        Edge.of(3, "Throws `IllegalArgumentException` if chance is out of range", () -> {
            for (int no : Edge.beside(0, 8)) {
                Edge.refusedAlways(Edge.ARGUMENT, x -> x.way(0, 0, 1, 1, no));
            }
        });
        Edge.of(3, "Exceptions", "If several exceptions apply, the one that is named first in the throws clause is"
                + " thrown.", () -> {
            Edge.refusedAlways(Edge.BOUNDS, x -> x.way(-1, 0, 1, 1, 9));
            Edge.refusedAlways(Edge.BOUNDS, x -> x.way(0, 4, 1, 1, -1));
            Edge.refusedAlways(Edge.BOUNDS, x -> x.way(0, 0, 4, 1, 9));
            Edge.refusedAlways(Edge.BOUNDS, x -> x.way(0, 0, 1, -1, -1));
        });
    }

    private static void put() {
        Edge.of(4, "Puts an arm into a state.", () -> {
            RestedArms arms = Made.busy();
            long row = arms.sum(2);
            arms.put(1, 3);
            Check.due("it", arms.arm(1, 0), 3);
            Check.due("pulls", arms.count(0), 8);
            Check.due("pulls of it", arms.arm(1, 1), Made.busy().arm(1, 1));
            Check.due("the one pulled last", arms.count(2), 2);
            Check.due("brought", arms.sum(0), Made.busy().sum(0));
            Check.due("no chance is drawn", arms.sum(2), row);
            for (int arm : new int[] {0, 2, 3}) {
                Check.due("the arm " + arm, arms.arm(arm, 0), Made.busy().arm(arm, 0));
            }
        });
        Edge.of(4, "Undoable.", () -> {
            Edge.undoable(Made::fresh, x -> x.put(0, 0));
            Edge.undoable(Made::fresh, x -> x.put(3, 3));
            Edge.undoable(Made::busy, x -> x.put(0, 0));
            Edge.undoable(Made::busy, x -> x.put(0, 3));
        });
        Edge.of(4, "`arm`: 0 to 3", () -> {
            RestedArms arms = new RestedArms();
            arms.put(0, 1);
            arms.put(3, 2);
            Check.due("the least", arms.arm(0, 0), 1);
            Check.due("the greatest", arms.arm(3, 0), 2);
            Check.due("those between", arms.arm(1, 0) + arms.arm(2, 0), 0);
        });
        Edge.of(4, "`state`: 0 to 3", () -> {
            RestedArms arms = new RestedArms();
            arms.put(2, 3);
            Check.due("the greatest", arms.arm(2, 0), 3);
            arms.put(2, 0);
            Check.due("the least", arms.arm(2, 0), 0);
        });
        Edge.of(4, "Returns the previous one.", () -> {
            RestedArms arms = new RestedArms();
            Check.due("at first", arms.put(1, 3), 0);
            Check.due("the greatest", arms.put(1, 0), 3);
            Check.due("the least", arms.put(1, 0), 0);
            arms.way(1, 0, 2, 2, 8);
            arms.pull(1);
            Check.due("behind a pull", arms.put(1, 0), 2);
        });
        Edge.of(4, "Throws `IndexOutOfBoundsException` if there is no such arm or state", () -> {
            for (int no : Edge.beside(0, 3)) {
                Edge.refusedAlways(Edge.BOUNDS, x -> x.put(no, 3));
                Edge.refusedAlways(Edge.BOUNDS, x -> x.put(3, no));
            }
        });
    }

    private static void set() {
        Edge.of(5, "Changes a setting.", () -> {
            RestedArms arms = new RestedArms();
            int[] value = {1, 2, 3, 1};
            for (int setting = 0; setting < 4; setting++) {
                arms.set(setting, value[setting]);
            }
            for (int setting = 0; setting < 4; setting++) {
                Check.due("the setting " + setting, arms.setting(setting), value[setting]);
            }
        });
        Edge.of(5, "Undoable.", () -> {
            int[] first = {90, 20, 0, 0};
            int[] other = {0, 60, 99, 1};
            for (int i = 0; i < 4; i++) {
                int setting = i;
                Edge.undoable(Made::fresh, x -> x.set(setting, first[setting]));
                Edge.undoable(Made::fresh, x -> x.set(setting, other[setting]));
                Edge.undoable(Made::busy, x -> x.set(setting, other[setting]));
            }
        });
        Edge.of(5, "`setting`: 0 to 3", () -> {
            Check.due("the least", new RestedArms().set(0, 1), 90);
            Check.due("the greatest", new RestedArms().set(3, 1), 0);
        });
        Edge.of(5, "`value`: the new value", () -> {
            RestedArms arms = new RestedArms();
            arms.set(0, 89);
            Check.due("value", arms.setting(0), 89);
        });
        Edge.of(5, "Returns the previous value.", () -> {
            RestedArms arms = new RestedArms();
            Check.due("at first", arms.set(2, 99), 0);
            Check.due("the greatest", arms.set(2, 0), 99);
            Check.due("the least", arms.set(2, 0), 0);
        });
        Edge.of(5, "Settings", "0: the discount, 0 to 99", () -> settingHolds(0, 0, 99));
        Edge.of(5, "Settings", "1: the rounds, 1 to 60", () -> settingHolds(1, 1, 60));
        Edge.of(5, "Settings", "2: the cost of changing, 0 to 99", () -> settingHolds(2, 0, 99));
        Edge.of(5, "Settings", "3: 1 if resting arms go on, otherwise 0", () -> settingHolds(3, 0, 1));
    }

    private static void settingHolds(int setting, int least, int greatest) {
        for (int value : Edge.from(least, greatest)) {
            RestedArms arms = new RestedArms();
            arms.set(setting, value);
            Check.due("told", arms.setting(setting), value);
        }
        for (int no : Edge.beside(least, greatest)) {
            Edge.refused(Edge.ARGUMENT, Made::savedFull, x -> x.set(setting, no));
        }
    }

    private static void setRefused() {
        Edge.of(5, "Throws `IndexOutOfBoundsException` if there is no such setting", () -> {
            for (int no : Edge.beside(0, 3)) {
                Edge.refusedAlways(Edge.BOUNDS, x -> x.set(no, 1));
            }
        });
        Edge.of(5, "Throws `IllegalArgumentException` if value is out of range", () -> {
            int[] least = {0, 1, 0, 0};
            int[] greatest = {99, 60, 99, 1};
            for (int i = 0; i < 4; i++) {
                int setting = i;
                Edge.refusedAlways(Edge.ARGUMENT, x -> x.set(setting, least[setting] - 1));
                Edge.refusedAlways(Edge.ARGUMENT, x -> x.set(setting, greatest[setting] + 1));
            }
        });
        Edge.of(5, "Exceptions", "If several exceptions apply, the one that is named first in the throws clause is"
                + " thrown.", () -> {
            Edge.refusedAlways(Edge.BOUNDS, x -> x.set(-1, -1));
            Edge.refusedAlways(Edge.BOUNDS, x -> x.set(4, 100));
        });
    }
}
