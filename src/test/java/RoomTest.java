import java.lang.management.ManagementFactory;

/** The calls make next to nothing: the dearest ones, 512 times, stay far within the room of one run. */
public final class RoomTest {
    private static final int CALLS = 512;
    /** The room of a run is 7.3 million elements; 8 bytes for each would be some 58 million. */
    private static final long MANY_BYTES = 1000000L;

    private RoomTest() {
    }

    private static long made() {
        com.sun.management.ThreadMXBean bean =
                (com.sun.management.ThreadMXBean) ManagementFactory.getThreadMXBean();
        return bean.getCurrentThreadAllocatedBytes();
    }

    private static long callsOf(RestedArms arms) {
        long heard = 0;
        for (int call = 0; call < CALLS / 8; call++) {
            heard += arms.digest();
            heard += arms.gift(call % 4, call / 4 % 4, call);
            heard += arms.bestRule(99);
            heard += arms.giftFor(call % 4, 0);
            heard += arms.play(0, 99);
            heard += arms.set(0, 90 + call % 9);
            heard += arms.undo();
            heard += arms.arm(call % 4, 3);
        }
        return heard;
    }

    public static void main(String[] args) {
        RestedArms first = new RestedArms();
        first.set(1, 60);
        long heard = callsOf(first);
        long before = made();
        RestedArms arms = new RestedArms();
        arms.set(1, 60);
        Check.due("the same calls", callsOf(arms), heard);
        long bytes = made() - before;
        System.out.println(CALLS + " dear calls made " + bytes + " bytes");
        Check.due("few bytes", bytes < MANY_BYTES);
        Check.end();
    }
}
