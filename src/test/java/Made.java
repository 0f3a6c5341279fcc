import java.math.BigInteger;

/** Objects that tests begin with, and rows of chances that are known ahead. */
final class Made {
    private static final BigInteger FACTOR = new BigInteger("6364136223846793005");
    private static final BigInteger ADDED = new BigInteger("1442695040888963407");
    private static final BigInteger ROUND = BigInteger.ONE.shiftLeft(64);

    private Made() {
    }

    static RestedArms fresh() {
        return new RestedArms();
    }

    static void type(RestedArms arms, String signs) {
        for (int i = 0; i < signs.length(); i++) {
            arms.append(signs.charAt(i));
        }
    }

    static RestedArms typed(String signs) {
        RestedArms arms = new RestedArms();
        type(arms, signs);
        return arms;
    }

    /** Arms whose states are those of the text; that is one saved state. */
    static RestedArms told(String states) {
        RestedArms arms = typed(states);
        arms.read();
        return arms;
    }

    /** Four arms that differ, with ways and pulls, 4 saved states and a text that is not at its end. */
    static RestedArms busy() {
        RestedArms arms = told("0a=10>ba4;0b=90>cd2;1a=20>ab7;2c=55>da1;3a=30>aa8");
        arms.set(2, 3);
        arms.play(0, 7);
        arms.pull(2);
        type(arms, "0a=");
        return arms;
    }

    /** The busy ones behind more changes than can be saved. */
    static RestedArms savedFull() {
        RestedArms arms = busy();
        arms.set(3, 1);
        arms.put(1, 2);
        arms.play(2, 5);
        return arms;
    }

    /** Arms behind so many pulls, in a circle; the arm 0 gives 5 and goes to its state b, the arm 1 gives 4. */
    static RestedArms pulled(int pulls) {
        RestedArms arms = told("0a=5>bb8;1a=4");
        for (int left = pulls; left > 0; left -= 99) {
            arms.play(2, Math.min(left, 99));
        }
        return arms;
    }

    static RestedArms atLimit() {
        return pulled(9999);
    }

    /** So many times the same sign. */
    static String row(char sign, int times) {
        return String.valueOf(sign).repeat(times);
    }

    /** What a long x becomes by a drawing, without the overflow of a long. */
    static long next(long x) {
        return BigInteger.valueOf(x).multiply(FACTOR).add(ADDED).longValue();
    }

    static long next(long x, int drawings) {
        long now = x;
        for (int i = 0; i < drawings; i++) {
            now = next(now);
        }
        return now;
    }

    /** The long x that becomes this one by a drawing. */
    static long ahead(long x) {
        BigInteger inverse = FACTOR.modInverse(ROUND);
        return BigInteger.valueOf(x).subtract(ADDED).multiply(inverse).longValue();
    }

    static int drawn(long x) {
        return BigInteger.valueOf(x).mod(ROUND).shiftRight(61).intValue();
    }
}
