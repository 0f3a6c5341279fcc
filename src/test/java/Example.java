/** What README.md shows of the use of the class. */
public final class Example {
    public static void main(String[] args) {
        RestedArms arms = new RestedArms();
        for (char sign : "0a=10>ba4;0b=90;1a=12".toCharArray()) {
            arms.append(sign);
        }
        System.out.println("parts read: " + arms.read());
        System.out.println("cost of changing before: " + arms.set(2, 3));
        System.out.println("index of the arm 0 in its state a: " + arms.index(0, 0));
        System.out.println("chosen by index and by gift: " + arms.choice(0) + " and " + arms.choice(1));
        System.out.println("20 pulls by gift would bring: " + arms.ifPlayed(1, 20));
        System.out.println("changes in 20 pulls by index: " + arms.play(0, 20));
        System.out.println("they brought: " + arms.sum(0));
        System.out.println("saved states left: " + arms.undo());
        System.out.println("pulls since the beginning: " + arms.count(0));
        try {
            arms.gift(4, 0, 100);
        } catch (IndexOutOfBoundsException e) {
            System.out.println("there is no arm 4, and all is as it was");
        }
    }
}
