import java.util.List;

/** Counts the answers that are not as due, and ends the program by them. */
final class Check {
    private static int asked = 0;
    private static int wrong = 0;

    private Check() { }

    static void due(String call, long got, long want) {
        asked++;
        if (got != want) {
            wrong++;
            System.out.println(call + " answered " + got + ", due is " + want);
        }
    }

    /** The call answers as is due, and leaves the room as one in which it was not called. */
    static void leaves(String call, Room.Plan plan, Room.Call made, long want) {
        ToldMeThat x = plan.build();
        due(call, made.on(x), want);
        List<String> got = Room.tell(x);
        List<String> was = Room.tell(plan.build());
        due(call + " leaves as many lines to tell", got.size(), was.size());
        for (int i = 0; i < Math.min(got.size(), was.size()); i++) {
            asked++;
            if (!got.get(i).equals(was.get(i))) {
                wrong++;
                System.out.println(call + " changed " + was.get(i) + " to " + got.get(i));
            }
        }
    }

    /** Feeds the text and makes a HOUSE of it: what house() answers. */
    static int house(ToldMeThat x, String text) {
        for (int i = 0; i < text.length(); i++) {
            x.feed(text.charAt(i));
        }
        return x.house();
    }

    static void end(String test) {
        System.out.println(test + ": " + (asked - wrong) + " answers as due, " + wrong + " not");
        if (wrong != 0 || asked == 0) {
            System.exit(1);
        }
    }
}
