import java.util.function.Consumer;

/** One sentence of the document, for each promise that throws: a refused call leaves all as it was. */
final class RefusedEdges {
    private RefusedEdges() {
    }

    static void all() {
        refused(2, x -> x.gift(4, 0, 5));
        refused(2, x -> x.gift(0, 0, 100));
        refused(3, x -> x.way(0, 0, 1, 4, 3));
        refused(3, x -> x.way(0, 0, 1, 2, 9));
        refused(4, x -> x.put(0, 4));
        refused(4, x -> x.put(-1, 1));
        refused(5, x -> x.set(4, 1));
        refused(5, x -> x.set(3, 2));
        refused(5, x -> x.set(1, 0));
        refused(6, x -> x.pull(4));
        refused(7, x -> x.play(3, 5));
        refused(7, x -> x.play(2, 100));
        refused(9, x -> x.append(127));
        refused(14, x -> x.stateOf(0, 4, 0));
        refused(14, x -> x.stateOf(0, 0, 5));
        refused(15, x -> x.index(0, 4));
        refused(16, x -> x.arm(4, 3));
        refused(16, x -> x.arm(0, 4));
        refused(17, x -> x.count(4));
        refused(18, x -> x.sum(3));
        refused(19, x -> x.setting(4));
        refused(20, x -> x.choice(3));
        refused(21, x -> x.ifPlayed(3, 1));
        refused(21, x -> x.ifPlayed(0, 100));
        refused(22, x -> x.bestRule(0));
        refused(23, x -> x.giftFor(0, 4));
        refusedByTheState();
    }

    private static void refused(int promise, Consumer<RestedArms> call) {
        Edge.of(promise, "Exceptions", "A call that throws an exception changes nothing.", () -> {
            Edge.goesOn(Made::fresh, call);
            Edge.goesOn(Made::busy, call);
            Edge.goesOn(Made::savedFull, call);
            Edge.goesOn(Made::atLimit, call);
        });
    }

    private static void refusedByTheState() {
        Edge.of(12, "Exceptions", "A call that throws an exception changes nothing.", () -> {
            for (String text : new String[] {"", "0a=9;", "3d=8>aa", "0a=9;1b=8x", Made.row('0', 60)}) {
                Edge.goesOn(() -> Made.typed(text), RestedArms::read);
            }
            Edge.goesOn(Made::savedFull, RestedArms::read);
        });
        Edge.of(6, "Exceptions", "A call that throws an exception changes nothing.",
                () -> Edge.goesOn(Made::atLimit, x -> x.pull(0)));
        Edge.of(7, "Exceptions", "A call that throws an exception changes nothing.", () -> {
            Edge.goesOn(Made::atLimit, x -> x.play(2, 1));
            Edge.goesOn(() -> Made.pulled(9950), x -> x.play(2, 50));
        });
        Edge.of(9, "Exceptions", "A call that throws an exception changes nothing.",
                () -> Edge.goesOn(() -> Made.typed(Made.row('0', 60)), x -> x.append('0')));
        Edge.of(13, "Exceptions", "A call that throws an exception changes nothing.", () -> {
            Edge.goesOn(Made::fresh, RestedArms::undo);
            Edge.goesOn(() -> Made.typed("0a=1"), RestedArms::undo);
        });
    }
}
