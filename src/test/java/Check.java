/** Counts the answers that are not as due, and ends the program by them. */
final class Check {
    private static int asked = 0;
    private static int wrong = 0;

    private Check() { }

    static void due(String call, long got, long want) {
        asked++;
        if (got != want) {
            wrong++;
            System.out.println(call + " answered " + got + ", due is " + want);
        }
    }

    /** Feeds the text and makes a HOUSE of it: what house() answers. */
    static int house(ToldMeThat x, String text) {
        for (int i = 0; i < text.length(); i++) {
            x.feed(text.charAt(i));
        }
        return x.house();
    }

    static void end(String test) {
        System.out.println(test + ": " + (asked - wrong) + " answers as due, " + wrong + " not");
        if (wrong != 0 || asked == 0) {
            System.exit(1);
        }
    }
}
