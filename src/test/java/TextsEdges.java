/** The sentences of the promises 9 to 13: the buffer, states as a text, and undo. */
final class TextsEdges {
    private static final String FIRST_NAMED =
            "If several exceptions apply, the one that is named first in the throws clause is thrown.";
    /** Each of these is the beginning of a text, and behind it stand the signs that may come next. */
    private static final String[][] NEXT = {
        {"", "0123"}, {"0", "abcd"}, {"3", "abcd"}, {"0a", "="}, {"3d", "="}, {"0a=", "0123456789"},
        {"0a=0", ";>"}, {"0a=1", "0123456789;>"}, {"0a=9", "0123456789;>"}, {"0a=10", ";>"}, {"0a=99", ";>"},
        {"0a=0>", "abcd"}, {"0a=9>", "abcd"}, {"0a=99>", "abcd"}, {"0a=99>a", "abcd"}, {"0a=99>d", "abcd"},
        {"0a=99>aa", "012345678"}, {"0a=99>dd", "012345678"}, {"0a=99>aa0", ";"}, {"0a=99>dd8", ";"},
        {"0a=0;", "0123"}, {"0a=9;", "0123"}, {"0a=99;", "0123"}, {"0a=99>aa8;", "0123"}, {"0a=0;3", "abcd"},
        {"0a=0;3d=5>ab0;2c=7", "0123456789;>"}
    };
    /** 12 parts, as many as there can be, in 60 characters. */
    private static final String FULL = "0a=1;0b=2;0c=3;0d=4;1a=5;1b=6;1c=7;1d=8;2a=9;2b=1;2c=2;3d=34";

    private TextsEdges() {
    }

    static void all() {
        append();
        appendRefused();
        clearBuffer();
        firstError();
        errorOfEachSign();
        read();
        readEdges();
        readRefused();
        undo();
        undoBringsBack();
    }

    private static RestedArms full() {
        return Made.typed(FULL);
    }

    private static RestedArms busyAndFull() {
        RestedArms arms = Made.savedFull();
        Made.type(arms, Made.row('~', 57));
        return arms;
    }

    private static void append() {
        Edge.of(9, "Appends a character to the buffer.", () -> {
            RestedArms arms = Made.typed("0");
            RestedArms other = Made.typed("3");
            Check.due("the buffers differ", arms.digest() != other.digest());
            Check.due("behind the others", Made.typed("31").digest() != Made.typed("13").digest());
            RestedArms twin = Made.busy();
            twin.append('1');
            Check.due("it saves nothing", twin.count(3), Made.busy().count(3));
        });
        Edge.of(9, "`code`: the character code, 33 to 126", () -> {
            RestedArms arms = new RestedArms();
            Check.due("the least", arms.append(33), 1);
            Check.due("the greatest", arms.append(126), 2);
            for (int code = 33; code <= 126; code++) {
                Check.due("the code " + code, new RestedArms().append(code), 1);
            }
        });
        Edge.of(9, "Returns the new length of the buffer.", () -> {
            RestedArms arms = new RestedArms();
            for (int length = 1; length <= 60; length++) {
                Check.due("length", arms.append('0'), length);
            }
            arms.clearBuffer();
            Check.due("length behind clearBuffer", arms.append('0'), 1);
        });
        Edge.of(9, "Input text", "The buffer has at most 60 characters.", () -> {
            RestedArms arms = Made.typed(Made.row('x', 59));
            Check.due("the 60th", arms.append('x'), 60);
            Edge.refused(Edge.STATE, () -> Made.typed(Made.row('x', 60)), x -> x.append('x'));
            Check.due("all 60 stay", arms.clearBuffer(), 60);
            Check.due("60 of a text", full().clearBuffer(), 60);
        });
    }

    private static void appendRefused() {
        Edge.of(9, "Throws `IllegalArgumentException` if code is not 33 to 126", () -> {
            for (int no : Edge.beside(33, 126)) {
                Edge.refusedAlways(Edge.ARGUMENT, x -> x.append(no));
            }
            for (int no : new int[] {0, -33, 256 + 48, 65536 + 48}) {
                Edge.refusedAlways(Edge.ARGUMENT, x -> x.append(no));
            }
        });
        Edge.of(9, "Throws `IllegalStateException` if the buffer has 60 characters", () -> {
            Edge.refused(Edge.STATE, TextsEdges::full, x -> x.append(33));
            Edge.refused(Edge.STATE, TextsEdges::busyAndFull, x -> x.append(126));
        });
        Edge.of(9, "Exceptions", FIRST_NAMED, () -> {
            Edge.refused(Edge.ARGUMENT, TextsEdges::full, x -> x.append(32));
            Edge.refused(Edge.ARGUMENT, TextsEdges::busyAndFull, x -> x.append(127));
        });
    }

    private static void clearBuffer() {
        Edge.of(10, "Clears the buffer.", () -> {
            RestedArms arms = full();
            arms.clearBuffer();
            Edge.same("behind clearing a full buffer", arms, new RestedArms());
            RestedArms shorter = Made.typed("0a=55>dd8;1b=7");
            shorter.clearBuffer();
            Made.type(shorter, "0a=5");
            Check.due("a shorter text has no error", shorter.firstError(), 4);
            Check.due("and no more parts", shorter.read(), 1);
            Check.due("and no more digits", shorter.stateOf(0, 0, 0), 5);
            RestedArms busy = Made.busy();
            busy.clearBuffer();
            Check.due("it saves nothing", busy.count(3), 4);
            busy.undo();
            Check.due("undo brings no buffer back", busy.clearBuffer(), 0);
        });
        Edge.of(10, "Returns the length that it had.", () -> {
            Check.due("empty", new RestedArms().clearBuffer(), 0);
            Check.due("one", Made.typed("x").clearBuffer(), 1);
            Check.due("59", Made.typed(Made.row('0', 59)).clearBuffer(), 59);
            RestedArms arms = full();
            Check.due("full", arms.clearBuffer(), 60);
            Check.due("again", arms.clearBuffer(), 0);
        });
    }

    private static void firstError() {
        Edge.of(11, "Finds the first syntax error of the buffer.", () -> {
            Check.due("of several", Made.typed("0a=5x0y=zzz").firstError(), 4);
            Check.due("of nothing but errors", Made.typed(Made.row('z', 60)).firstError(), 0);
            Edge.onlyLooks(TextsEdges::full, RestedArms::firstError);
            Edge.onlyLooks(TextsEdges::busyAndFull, RestedArms::firstError);
        });
        Edge.of(11, "Returns the index of the first character that is a syntax error; the length of the buffer if"
                + " there is none.", () -> {
            Check.due("empty", new RestedArms().firstError(), 0);
            Check.due("one that is wrong", Made.typed("4").firstError(), 0);
            Check.due("one that is right", Made.typed("3").firstError(), 1);
            Check.due("full and right", full().firstError(), 60);
            Check.due("full and wrong at the end", Made.typed(FULL.substring(0, 59) + "x").firstError(), 59);
            Check.due("cleared", cleared().firstError(), 0);
        });
        Edge.of(11, "Input text", "a character is a syntax error if no states as a text, of any length, begin with"
                + " the characters before it and this character.", () -> {
            String goesOn = FULL.substring(0, 59);
            for (char last : new char[] {'0', '9', ';', '>'}) {
                Check.due("full, but a beginning, by " + last, Made.typed(goesOn + last).firstError(), 60);
            }
            String parts = "0a=10>ba4;".repeat(5);
            for (String end : new String[] {"0a=10>ba4;", "3d=1;0a=1>", "3d=1;0a=99", "3d=1;1b=1;", "0a=1;0a=1>"}) {
                Check.due("60 characters with " + end, Made.typed(parts + end).firstError(), 60);
            }
            Check.due("60 characters with an error", Made.typed(parts + "3d=1;0a=1=").firstError(), 59);
        });
        Edge.of(11, "Input text", "The buffer is read from left to right", () -> {
            Check.due("right only from the right", Made.typed("a0=1").firstError(), 0);
            Check.due("what comes behind an error", Made.typed("x0a=1").firstError(), 0);
        });
    }

    private static RestedArms cleared() {
        RestedArms arms = Made.typed("x");
        arms.clearBuffer();
        return arms;
    }

    private static void errorOfEachSign() {
        Edge.of(11, "Input text", "States as a text are one or more parts with \";\" between them, each an arm, 0"
                + " to 3, a state as a letter, \"a\" to \"d\" (0 to 3), \"=\", a gift, 0 to 99 without a leading"
                + " zero, and perhaps \">\" and three characters: a letter of its good state, a letter of its bad"
                + " state, and the chance, 0 to 8.", () -> {
            for (String[] some : NEXT) {
                String start = some[0];
                for (char sign = 33; sign <= 126; sign++) {
                    boolean may = some[1].indexOf(sign) >= 0;
                    Check.due("the first error of " + start + sign, Made.typed(start + sign).firstError(),
                            may ? start.length() + 1 : start.length());
                }
                Check.due("the first error of " + start, Made.typed(start).firstError(), start.length());
            }
        });
        Edge.of(11, "Input text", "a gift, 0 to 99 without a leading zero", () -> {
            for (int gift = 0; gift <= 99; gift++) {
                Check.due("the gift " + gift, Made.typed("3d=" + gift + ";").firstError(), gift < 10 ? 5 : 6);
                Check.due("a zero ahead of " + gift, Made.typed("3d=0" + gift + ";").firstError(), 4);
            }
            Check.due("the gift 100", Made.typed("3d=100").firstError(), 5);
            Check.due("the gift 990", Made.typed("3d=990").firstError(), 5);
        });
    }

    private static void read() {
        Edge.of(12, "Changes the states in the buffer, one part after the other (without \">\" only the"
                + " gift)", () -> {
            RestedArms arms = Made.told("2c=10>ab7;2c=20;2c=0;2b=5;2b=6>cd1");
            Check.due("the gift of the last part", arms.stateOf(2, 2, 0), 0);
            Check.due("the way of the first part", arms.way(2, 2, 0, 0, 0), 17);
            Check.due("the gift of the later part", arms.stateOf(2, 1, 0), 6);
            Check.due("the way of the later part", arms.way(2, 1, 0, 0, 0), 231);
            Check.due("what is not named", arms.stateOf(2, 3, 0) + arms.stateOf(1, 2, 0), 0);
            Check.due("its way", arms.way(2, 3, 0, 0, 0), 334);
        });
        Edge.of(12, "and clears the buffer.", () -> {
            RestedArms arms = full();
            arms.read();
            Check.due("length", arms.clearBuffer(), 0);
            Edge.refused(Edge.ARGUMENT, () -> Made.told("0a=1"), RestedArms::read);
        });
        Edge.of(12, "Undoable, as one call.", () -> {
            for (String text : new String[] {"0a=0", "3d=99>aa8", "0a=0>aa4;1b=0>bb4", "0a=1;0b=2;0a=3>dd0", FULL}) {
                RestedArms arms = Made.savedFull();
                arms.clearBuffer();
                RestedArms twin = Made.savedFull();
                twin.clearBuffer();
                arms.undo();
                twin.undo();
                Made.type(arms, text);
                arms.read();
                Check.due("saved by " + text, arms.count(3), 6);
                Check.due("left by its undo", arms.undo(), 5);
                Edge.same("behind the undo of " + text, arms, twin);
                Edge.undoable(Made::fresh, x -> typedAndRead(x, text));
                Edge.undoable(() -> Made.pulled(5), x -> typedAndRead(x, text));
            }
        });
        Edge.of(12, "Undo", "saves the state from before it (also if it changes nothing): all, also what was"
                + " brought so far, but the buffer and the saved states.", () -> {
            RestedArms arms = full();
            arms.read();
            Made.type(arms, "1b");
            arms.undo();
            Check.due("the buffer is that of now", arms.clearBuffer(), 2);
        });
        Edge.of(12, "Returns how many parts it had.", () -> {
            Check.due("the least", Made.typed("0a=0").read(), 1);
            Check.due("two", Made.typed("0a=0;0a=0").read(), 2);
            Check.due("the most", full().read(), 12);
            Check.due("six long ones", Made.typed("0a=10>ba4;".repeat(5) + "0a=10>ba4").read(), 6);
        });
    }

    private static void typedAndRead(RestedArms arms, String text) {
        Made.type(arms, text);
        arms.read();
    }

    private static void readEdges() {
        Edge.of(12, "Input text", "each an arm, 0 to 3, a state as a letter, \"a\" to \"d\" (0 to 3)", () -> {
            for (int slot = 0; slot < 16; slot++) {
                RestedArms arms = Made.told("" + (char) ('0' + slot / 4) + (char) ('a' + slot % 4) + "=7");
                for (int some = 0; some < 16; some++) {
                    Check.due("gift of " + some, arms.stateOf(some / 4, some % 4, 0), some == slot ? 7 : 0);
                }
            }
        });
        Edge.of(12, "Input text", "a gift, 0 to 99 without a leading zero", () -> {
            for (int gift = 0; gift <= 99; gift++) {
                Check.due("gift", Made.told("1c=" + gift).stateOf(1, 2, 0), gift);
                Check.due("gift with a way", Made.told("1c=55;1c=" + gift + ">aa0").stateOf(1, 2, 0), gift);
            }
        });
        Edge.of(12, "Input text", "three characters: a letter of its good state, a letter of its bad state, and the"
                + " chance, 0 to 8.", () -> {
            for (int good = 0; good < 4; good++) {
                for (int bad = 0; bad < 4; bad++) {
                    for (int chance = 0; chance <= 8; chance++) {
                        String way = "" + (char) ('a' + good) + (char) ('a' + bad) + chance;
                        Check.due(way, Made.told("1c=1>" + way).way(1, 2, 0, 0, 0), 100 * good + 10 * bad + chance);
                    }
                }
            }
        });
        Edge.of(12, "Input text", "The buffer has at most 60 characters.", () -> {
            RestedArms arms = full();
            arms.read();
            Check.due("the last character counts", arms.stateOf(3, 3, 0), 34);
            Check.due("and the first part", arms.stateOf(0, 0, 0), 1);
        });
    }

    private static void readRefused() {
        Edge.of(12, "Throws `IllegalArgumentException` if the buffer is not complete states as a text", () -> {
            Edge.refused(Edge.ARGUMENT, Made::fresh, RestedArms::read);
            Edge.refused(Edge.ARGUMENT, Made::busy, RestedArms::read);
            Edge.refused(Edge.ARGUMENT, TextsEdges::busyAndFull, RestedArms::read);
            String whole = "0a=10>ba4;1b=5;2c=0>dd8";
            for (int length = 0; length <= whole.length(); length++) {
                String text = whole.substring(0, length);
                if (text.matches(".*(=[0-9]+|>[a-d][a-d][0-8])")) {
                    Made.told(text);
                } else {
                    Edge.refused(Edge.ARGUMENT, () -> Made.typed(text), RestedArms::read);
                }
            }
            String most = FULL.substring(0, 59);
            for (String some : new String[] {
                "0a=1;", "x", "0a=1x", "x0a=1", "0a=1;x", "0a=1;;1a=1", ";0a=1", "0a=01", "0a=100", "4a=1", "0e=1",
                "0a=1>ba9", "0a=1>bea", "0a=1>ea1", "0a=1>ba44", "0A=1", most + "x", most + ";", most + ">"
            }) {
                Edge.refused(Edge.ARGUMENT, () -> Made.typed(some), RestedArms::read);
            }
        });
        Edge.of(12, "Exceptions", "A call that throws an exception changes nothing.", () -> {
            RestedArms arms = Made.typed("0a=9;3d=8>aa1;0");
            Edge.refused(Edge.ARGUMENT, () -> Made.typed("0a=9;3d=8>aa1;0"), RestedArms::read);
            Check.due("the buffer goes on behind the refused read", refusedThen(arms, "b=7").read(), 3);
            Check.due("with all parts", arms.stateOf(0, 0, 0) + arms.stateOf(3, 3, 0) + arms.stateOf(0, 1, 0), 24);
        });
    }

    private static RestedArms refusedThen(RestedArms arms, String more) {
        try {
            arms.read();
            Check.fail("it is not refused");
        } catch (IllegalArgumentException e) {
            Made.type(arms, more);
        }
        return arms;
    }

    private static void undo() {
        Edge.of(13, "Restores the latest saved state, and drops it.", () -> {
            RestedArms arms = new RestedArms();
            arms.gift(0, 0, 1);
            arms.gift(0, 0, 2);
            arms.undo();
            Check.due("the latest", arms.stateOf(0, 0, 0), 1);
            arms.undo();
            Check.due("the one ahead", arms.stateOf(0, 0, 0), 0);
        });
        Edge.of(13, "Returns how many saved states are left.", () -> {
            RestedArms arms = Made.savedFull();
            for (int left = 5; left >= 0; left--) {
                Check.due("left", arms.undo(), left);
                Check.due("saved", arms.count(3), left);
            }
        });
        Edge.of(13, "Throws `IllegalStateException` if there is none", () -> {
            Edge.refused(Edge.STATE, Made::fresh, RestedArms::undo);
            Edge.refused(Edge.STATE, TextsEdges::full, RestedArms::undo);
            Edge.refused(Edge.STATE, TextsEdges::allUndone, RestedArms::undo);
            RestedArms again = allUndone();
            again.put(0, 1);
            Check.due("one again", again.undo(), 0);
        });
        Edge.of(13, "Undo", "At most 6 states are saved; the oldest one is dropped first.", () -> {
            for (int calls = 1; calls <= 20; calls++) {
                RestedArms arms = new RestedArms();
                for (int gift = 1; gift <= calls; gift++) {
                    arms.gift(1, 1, gift);
                    Check.due("saved", arms.count(3), Math.min(gift, 6));
                }
                for (int left = Math.min(calls, 6) - 1; left >= 0; left--) {
                    Check.due("left", arms.undo(), left);
                    Check.due("gift behind undo", arms.stateOf(1, 1, 0), calls - Math.min(calls, 6) + left);
                }
                Edge.refused(Edge.STATE, () -> arms, RestedArms::undo);
            }
        });
        Edge.of(13, "Undo", "At most 6 states are saved", () -> {
            RestedArms arms = Made.savedFull();
            arms.undo();
            arms.undo();
            arms.gift(0, 0, 1);
            arms.gift(0, 0, 2);
            Check.due("full again", arms.count(3), 6);
            arms.gift(0, 0, 3);
            Check.due("not more", arms.count(3), 6);
            arms.undo();
            arms.undo();
            arms.undo();
            Check.due("what was saved before", arms.stateOf(0, 0, 0), 10);
            Check.due("three are left", arms.count(3), 3);
        });
    }

    private static RestedArms allUndone() {
        RestedArms arms = Made.savedFull();
        for (int i = 0; i < 6; i++) {
            arms.undo();
        }
        return arms;
    }

    private static void undoBringsBack() {
        Edge.of(13, "Undo", "all, also what was brought so far, but the buffer and the saved states.", () -> {
            RestedArms arms = Made.busy();
            long[] was = told(arms);
            arms.gift(0, 0, 1);
            arms.way(0, 0, 3, 3, 3);
            arms.set(0, 5);
            arms.set(1, 5);
            arms.play(2, 44);
            arms.begin(8);
            for (int i = 0; i < 6; i++) {
                arms.undo();
            }
            long[] is = told(arms);
            for (int i = 0; i < was.length; i++) {
                Check.due("number " + i, is[i], was[i]);
            }
            Check.due("the saved states are those of now", arms.count(3), 0);
            Made.type(arms, "5");
            arms.put(0, 3);
            Made.type(arms, ">");
            arms.undo();
            Check.due("the buffer is that of now", arms.clearBuffer(), 5);
        });
        Edge.of(13, "Undo", "Each method that is marked \"undoable\" and does not throw an exception saves the"
                + " state", () -> {
            RestedArms arms = Made.busy();
            arms.append('1');
            arms.firstError();
            arms.stateOf(0, 0, 4);
            arms.index(0, 0);
            arms.arm(0, 3);
            arms.count(0);
            arms.sum(0);
            arms.setting(0);
            arms.choice(0);
            arms.ifPlayed(0, 99);
            arms.bestRule(99);
            arms.giftFor(0, 0);
            arms.evenness();
            arms.digest();
            arms.clearBuffer();
            Check.due("the others save nothing", arms.count(3), 4);
            Check.due("nor does undo", arms.undo(), 3);
        });
    }

    /** The numbers that a saved state has. */
    private static long[] told(RestedArms arms) {
        long[] told = new long[82];
        int next = 0;
        for (int what = 0; what < 3; what++) {
            told[next++] = arms.count(what);
            told[next++] = arms.sum(what);
        }
        for (int number = 0; number < 4; number++) {
            told[next++] = arms.setting(number);
            told[next++] = arms.arm(number, 0);
            told[next++] = arms.arm(number, 1);
            for (int state = 0; state < 4; state++) {
                for (int what = 0; what < 4; what++) {
                    told[next++] = arms.stateOf(number, state, what);
                }
            }
        }
        return told;
    }
}
