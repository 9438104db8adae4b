/** "What is asked changes nothing": each asking, in rooms of all sorts, and asked twice alike. */
public final class AskingChangesNothingTest {
    private static final Room.Plan[] ROOMS = {Room::empty, Room::some, Room::full, Room::fullText,
        Room::lastDay, AskingChangesNothingTest::twoOfAKind};

    public static void main(String[] args) {
        for (int room = 0; room < ROOMS.length; room++) {
            askOfOne("room " + room + ": ", ROOMS[room]);
            askOfTables("room " + room + ": ", ROOMS[room]);
            askOfRows("room " + room + ": ", ROOMS[room]);
        }
        Check.end("AskingChangesNothingTest");
    }

    private static ToldMeThat twoOfAKind() {
        ToldMeThat x = Room.of(2, 5, 2);
        x.hearer(6, 1);
        x.row(2, 0, 3);
        x.tell(0, 5);
        x.tell(0, 5);
        x.pass(21);
        x.tell(1, 6);
        x.book(0);
        x.book(0);
        x.image();
        x.pass(9);
        return x;
    }

    private static void asks(String call, Room.Plan plan, Room.Call made) {
        Check.leaves(call, plan, made, made.on(plan.build()));
        ToldMeThat twice = plan.build();
        Check.due(call + " twice", made.on(twice), made.on(twice));
    }

    private static void askOfOne(String room, Room.Plan plan) {
        int[] whats = {0, 1, 10, 11, 17, 20, 21, 27, 30, 31, 37};
        for (int what : whats) {
            asks(room + "of(0, " + what + ")", plan, x -> x.of(0, what));
            asks(room + "of(2, " + what + ")", plan, x -> x.of(2, what));
        }
        for (int i = 0; i < 8; i++) {
            int n = i;
            asks(room + "at(n, 0)", plan, x -> x.at(n, 0));
            asks(room + "at(n, 1)", plan, x -> x.at(n, 1));
            asks(room + "laugh(n, 0)", plan, x -> x.laugh(n, 0));
            asks(room + "laugh(2, n)", plan, x -> x.laugh(2, n));
            asks(room + "fresh(n)", plan, x -> x.fresh(n));
            asks(room + "guess(n)", plan, x -> x.guess(n));
            asks(room + "spared(0, n)", plan, x -> x.spared(0, n));
            asks(room + "spared(2, n)", plan, x -> x.spared(2, n));
            asks(room + "taken(n, 0)", plan, x -> x.taken(n, 0));
            asks(room + "taken(2, n)", plan, x -> x.taken(2, n));
            asks(room + "count(n)", plan, x -> x.count(n));
            asks(room + "told(n)", plan, x -> x.told(n));
            asks(room + "trace(n)", plan, x -> x.trace(n));
            asks(room + "read(n, 1)", plan, x -> x.read(n, 1));
            asks(room + "judge(n, 0)", plan, x -> x.judge(n, 0));
            asks(room + "judge(0, n)", plan, x -> x.judge(0, n));
        }
    }

    private static void askOfTables(String room, Room.Plan plan) {
        int[] tables = {0, 1, 3, 7, 21, 63};
        for (int table : tables) {
            for (int what = 0; what < 2; what++) {
                int w = what;
                asks(room + "would(0, " + table, plan, x -> x.would(0, table, w));
                asks(room + "would(1, " + table, plan, x -> x.would(1, table, w));
                asks(room + "best(" + table, plan, x -> x.best(table, w));
                asks(room + "evening(" + table, plan, x -> x.evening(table, 12, w));
                asks(room + "evening(" + table, plan, x -> x.evening(table, 40, w));
                asks(room + "coffee(" + table, plan, x -> x.coffee(table, w));
                asks(room + "keep(" + table, plan, x -> x.keep(table, 1, 1, w));
                asks(room + "keep(1, " + table, plan, x -> x.keep(1, table, 60, w));
                asks(room + "mean(" + table, plan, x -> x.mean(table, w));
            }
            asks(room + "again(0, " + table, plan, x -> x.again(0, table));
            asks(room + "again(1, " + table, plan, x -> x.again(1, table));
        }
    }

    private static void askOfRows(String room, Room.Plan plan) {
        for (int k = -1; k < 3; k++) {
            int at = k;
            for (int n = 1; n <= 3; n++) {
                int many = n;
                asks(room + "suppers(7, " + n, plan, x -> x.suppers(7, many, 1, at));
                asks(room + "suppers(1, " + n, plan, x -> x.suppers(1, many, 30, at));
            }
            asks(room + "seats(0, " + k, plan, x -> x.seats(0, at));
            asks(room + "seats(1, " + k, plan, x -> x.seats(1, at));
        }
        asks(room + "odds(0, 0)", plan, x -> x.odds(0, 0));
        asks(room + "odds(1, 1)", plan, x -> x.odds(1, 1));
        asks(room + "looked()", plan, x -> x.looked());
    }
}
