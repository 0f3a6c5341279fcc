import java.util.ArrayList;
import java.util.LinkedHashMap;
import java.util.List;
import java.util.Map;
import java.util.function.Consumer;
import java.util.function.Supplier;

/** Tests that stand for one sentence of the document each, with the number of the promise beside it. */
final class Edge {
    static final Class<IndexOutOfBoundsException> BOUNDS = IndexOutOfBoundsException.class;
    static final Class<IllegalArgumentException> ARGUMENT = IllegalArgumentException.class;
    static final Class<IllegalStateException> STATE = IllegalStateException.class;

    private static final Map<String, List<String>> CITED = new LinkedHashMap<>();
    private static int tests = 0;

    private Edge() {
    }

    /** A test for a sentence that stands in the promise itself. */
    static void of(int promise, String sentence, Runnable test) {
        run(promise, "Promise " + promise, sentence, test);
    }

    /** A test for a sentence of another section, where it tells something of the promise. */
    static void of(int promise, String section, String sentence, Runnable test) {
        run(promise, section, sentence, test);
    }

    private static void run(int promise, String section, String sentence, Runnable test) {
        CITED.computeIfAbsent(section, name -> new ArrayList<>()).add(sentence);
        tests++;
        Check.at("promise " + promise + ", \"" + sentence + "\" (" + section + "): ");
        try {
            test.run();
        } catch (RuntimeException e) {
            Check.fail("threw " + e);
        }
        Check.at("");
    }

    /** One below and one above, and the ends of the numbers. */
    static int[] beside(int least, int greatest) {
        return new int[] {least - 1, greatest + 1, Integer.MIN_VALUE, Integer.MAX_VALUE};
    }

    static int[] from(int least, int greatest) {
        int[] numbers = new int[greatest - least + 1];
        for (int i = 0; i < numbers.length; i++) {
            numbers[i] = least + i;
        }
        return numbers;
    }

    /** The call throws exactly this; what it was called on tells the same as a twin, and so do all its saved states. */
    static void refused(Class<? extends RuntimeException> want, Supplier<RestedArms> made, Consumer<RestedArms> call) {
        RestedArms called = made.get();
        try {
            call.accept(called);
            Check.fail("throws nothing, due is " + want.getName());
        } catch (RuntimeException e) {
            Check.due("throws " + e.getClass().getName() + ", due is " + want.getName() + ":"
                    + " that", e.getClass() == want);
        }
        same("behind the refused call", called, made.get());
    }

    /** The same on a new object, on a busy one, with all saved states that there can be, and behind the last pull. */
    static void refusedAlways(Class<? extends RuntimeException> want, Consumer<RestedArms> call) {
        refused(want, Made::fresh, call);
        refused(want, Made::busy, call);
        refused(want, Made::savedFull, call);
        refused(want, Made::atLimit, call);
    }

    /** Behind the refused call all goes on as it does without it. */
    static void goesOn(Supplier<RestedArms> made, Consumer<RestedArms> call) {
        RestedArms called = made.get();
        RestedArms spared = made.get();
        try {
            call.accept(called);
            Check.fail("throws nothing");
        } catch (RuntimeException e) {
            Check.due("what the next calls tell", afterwards(called), afterwards(spared));
            same("behind the next calls", called, spared);
        }
    }

    private static long afterwards(RestedArms arms) {
        long told = arms.digest();
        told = 31 * told + arms.clearBuffer();
        Made.type(arms, "1c=31>db3;0a=7");
        told = 31 * told + arms.read();
        told = 31 * told + arms.gift(2, 2, 8);
        if (arms.count(0) < 9900) {
            told = 31 * told + arms.play(0, 99);
        }
        told = 31 * told + arms.undo();
        return 31 * told + arms.digest();
    }

    /**
     * The call saves one state more, and an undo brings back all of it, with those that were saved before.
     * What was looked at before a change is not told behind it.
     */
    static void undoable(Supplier<RestedArms> made, Consumer<RestedArms> call) {
        RestedArms called = made.get();
        RestedArms unseen = made.get();
        RestedArms twin = made.get();
        called.digest();
        call.accept(called);
        call.accept(unseen);
        Check.due("the digest behind the call", called.digest(), unseen.digest());
        Check.due("saved states behind the call", called.count(3), twin.count(3) + 1);
        Check.due("saved states behind its undo", called.undo(), twin.count(3));
        same("behind the undo", called, twin);
    }

    /** The call saves nothing and changes nothing. */
    static void onlyLooks(Supplier<RestedArms> made, Consumer<RestedArms> call) {
        RestedArms called = made.get();
        call.accept(called);
        same("behind the look", called, made.get());
    }

    /** Both tell the same, now and behind each undo that there is. */
    static void same(String when, RestedArms one, RestedArms other) {
        Check.due("the digest " + when, one.digest(), other.digest());
        Check.due("the first error " + when, one.firstError(), other.firstError());
        Check.due("the saved states " + when, one.count(3), other.count(3));
        for (int left = Math.min(one.count(3), other.count(3)); left > 0; left--) {
            one.undo();
            other.undo();
            Check.due("the digest " + when + ", of the saved state " + left, one.digest(), other.digest());
        }
    }

    /** Each sentence that is cited stands in the document where it is said to, and none of its promises is left out. */
    static void endWith(Document document) {
        for (Map.Entry<String, List<String>> section : CITED.entrySet()) {
            for (String sentence : section.getValue()) {
                Check.due("the document says under " + section.getKey() + " \"" + sentence + "\"; that",
                        document.says(section.getKey(), sentence));
            }
        }
        for (String sentence : document.uncited(CITED)) {
            Check.fail("no test stands for the sentence " + sentence);
        }
        System.out.println(tests + " tests of sentences");
        Check.end();
    }
}
