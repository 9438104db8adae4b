/** Good stories, tables of hearers, and what is told to whom: see shared/DOC.md. */
public final class ToldMeThat {
    public static final int NONE = -1, BAD = -2, STATE = -3, FULL = -4;
    public static final long NO = Long.MIN_VALUE;

    private static final int NOT_THERE = -5, FAULTY = -10;
    private static final int NOTHING = -11, CAST = -12, PLACE = -13, SIZE = -14;
    // LAUGHTER may well be -1 or -2, so the calls that answer it refuse by these.
    private static final int NO_SUCH = -10001, NOT_AS_TOLD = -10002, FEWER = -10005;

    private static final int STORIES = 8, HEARERS = 6, FACES = 6, ENTRIES = 10;
    private static final int HOUSES = 6, TEXT = 100, TAPES = 6, ITEMS = 60, PARTS = 4;
    private static final int MOST_TIMES = 999, LAST_DAY = 9999;
    private static final int DAYS_WITHOUT = 20, FACE_WITHOUT = 5;
    private static final int ROW_LENGTH = 3, EARLIER = 4;
    // No sum of LAUGHTER comes near this: some 100,000 is the most.
    private static final int BEYOND = 1_000_000;

    private final State now = new State();
    private final State kept = new State();
    private boolean imaged = false;

    private final byte[] text = new byte[TEXT];
    private int typed = 0;
    private final House[] houses = new House[HOUSES];
    private int built = 0;

    private final Trace trace = new Trace();
    private final Tape[] tapes = new Tape[TAPES];

    // Rows that the askings write over; nothing in them outlives a call.
    private final int[] facts = new int[House.FACTS];
    private final int[] worths = new int[STORIES];
    private final int[] laterWorths = new int[STORIES];
    private final int[] laughs = new int[HEARERS];
    private final int[] supperWorths = new int[ROW_LENGTH * STORIES * EARLIER];
    private final int[] order = new int[HEARERS];
    private final int[] bestOrder = new int[HEARERS];

    public ToldMeThat() {
        for (int i = 0; i < houses.length; i++) {
            houses[i] = new House();
        }
        for (int i = 0; i < tapes.length; i++) {
            tapes[i] = new Tape();
        }
    }

    // ---- stories, hearers, houses

    public int story(int good, int minutes) {
        if (!isGood(good) || !within(minutes, 1, 9)) {
            return BAD;
        }
        if (now.stories >= STORIES) {
            return FULL;
        }
        now.good[now.stories] = good;
        now.minutes[now.stories] = minutes;
        return now.stories++;
    }

    public int hearer(int kind, int v) {
        if (!within(kind, 0, Hearer.KINDS - 1)) {
            return NONE;
        }
        if (!within(v, 0, 9)) {
            return BAD;
        }
        if (now.hearers >= HEARERS) {
            return FULL;
        }
        now.who[now.hearers] = newHearer(kind, now.hearers, v);
        return now.hearers++;
    }

    public int of(int hearer, int what) {
        Hearer one = hearerAt(hearer);
        if (one == null) {
            return NONE;
        }
        if (what == 0) {
            return one.kind;
        }
        if (what == 1) {
            return one.v;
        }
        if (!within(what, 10, 39) || !isStory(what % 10)) {
            return NONE;
        }
        int story = what % 10;
        switch (what / 10) {
            case 1:
                return timesOf(hearer, story);
            case 2:
                return knowersThen(story, 1 << hearer, now.day) == 0 ? 0 : 1;
            default:
                return 1000 + moodThen(one, story, timesOf(hearer, story), now.day);
        }
    }

    public int at(int story, int what) {
        if (!isStory(story)) {
            return NONE;
        }
        switch (what) {
            case 0:
                return now.good[story];
            case 1:
                return now.minutes[story];
            default:
                return NONE;
        }
    }

    public int good(int story, int n) {
        if (!isStory(story)) {
            return NONE;
        }
        if (!isGood(n)) {
            return BAD;
        }
        int was = now.good[story];
        now.good[story] = n;
        return was;
    }

    public int had(int hearer, int story, int n) {
        if (hearerAt(hearer) == null || !isStory(story)) {
            return NONE;
        }
        if (!within(n, 0, 99)) {
            return BAD;
        }
        int was = timesOf(hearer, story);
        setHad(hearer, story, n);
        return was;
    }

    public int row(int hearer, int part, int n) {
        Hearer one = hearerAt(hearer);
        if (one == null || !within(part, 0, PARTS - 1)) {
            return NONE;
        }
        if (!within(n, 1, 9)) {
            return BAD;
        }
        if (!(one instanceof Told)) {
            return STATE;
        }
        int place = hearer * PARTS + part;
        int was = now.rows[place];
        now.rows[place] = n;
        return was;
    }

    public int feed(int sign) {
        if (!within(sign, 0, 127)) {
            return BAD;
        }
        if (typed >= TEXT) {
            return FULL;
        }
        text[typed] = (byte) sign;
        typed++;
        return typed;
    }

    public int house() {
        if (built >= HOUSES) {
            return FULL;
        }
        int fault = houses[built].learn(text, typed);
        typed = 0;
        if (fault >= 0) {
            return FAULTY - fault;
        }
        now.holds = built;
        return built++;
    }

    public int told(int what) {
        switch (what) {
            case 0:
                return now.day;
            case 1:
                return daysTold();
            case 2:
                return faceTold();
            default:
                return NONE;
        }
    }

    public int pass(int n) {
        if (!within(n, 0, 99)) {
            return BAD;
        }
        if (now.day + n > LAST_DAY) {
            return STATE;
        }
        now.day += n;
        return now.day;
    }

    // ---- stories told

    public int tell(int story, int table) {
        if (!isStory(story)) {
            return NO_SUCH;
        }
        if (!isTable(table)) {
            return NOT_AS_TOLD;
        }
        int laughter = laughter(story, table);
        for (int h = 0; h < now.hearers; h++) {
            if (in(table, h)) {
                setHad(h, story, Math.min(MOST_TIMES, timesOf(h, story) + 1));
            }
        }
        return laughter;
    }

    public int laugh(int hearer, int story) {
        if (hearerAt(hearer) == null || !isStory(story)) {
            return NO_SUCH;
        }
        return laughNow(hearer, story);
    }

    public int would(int story, int table, int what) {
        if (!isStory(story) || !within(what, 0, 1)) {
            return NO_SUCH;
        }
        if (!isTable(table)) {
            return NOT_AS_TOLD;
        }
        return what == 0 ? laughter(story, table)
                : Integer.bitCount(knowersThen(story, table, now.day));
    }

    public int best(int table, int what) {
        if (!within(what, 0, 1)) {
            return NO_SUCH;
        }
        if (!isTable(table)) {
            return NOT_AS_TOLD;
        }
        weigh(worths, table, now.day);
        int best = bestBeside(0);
        if (best < 0) {
            return FEWER;
        }
        return what == 0 ? best : worths[best];
    }

    public int fresh(int story) {
        if (!isStory(story)) {
            return NONE;
        }
        return everybody() & ~knowersThen(story, everybody(), now.day);
    }

    public int again(int story, int table) {
        if (!isStory(story)) {
            return NONE;
        }
        if (!isTable(table)) {
            return BAD;
        }
        for (int days = 0; days <= 99; days++) {
            if (knowersThen(story, table, now.day + days) == 0) {
                return days;
            }
        }
        return NOT_THERE;
    }

    // ---- evenings, suppers, seats

    public int evening(int table, int m, int what) {
        if (!within(what, 0, 1)) {
            return NO_SUCH;
        }
        if (!isTable(table) || !within(m, 1, 40)) {
            return NOT_AS_TOLD;
        }
        weigh(worths, table, now.day);
        int best = 0;
        int most = 0;
        for (int set = 1; set < 1 << now.stories; set++) {
            int worth = sumOf(worths, set);
            if (worth > most && sumOf(now.minutes, set) <= m) {
                best = set;
                most = worth;
            }
        }
        return what == 0 ? best : most;
    }

    public int coffee(int table, int what) {
        if (!within(what, 0, 1)) {
            return NO_SUCH;
        }
        if (!isTable(table)) {
            return NOT_AS_TOLD;
        }
        // A story that is told changes no other one's LAUGHTER: weighing once is enough.
        weigh(worths, table, now.day);
        int told = 0;
        int next = bestBeside(told);
        for (int i = 0; i < STORIES && next >= 0 && worths[next] > 0; i++) {
            told |= 1 << next;
            next = bestBeside(told);
        }
        return what == 0 ? Integer.bitCount(told) : sumOf(worths, told);
    }

    public int keep(int table, int other, int n, int what) {
        if (!within(what, 0, 1)) {
            return NO_SUCH;
        }
        if (!isTable(table) || !isTable(other) || !within(n, 1, 60)) {
            return NOT_AS_TOLD;
        }
        if (now.stories < 2) {
            return FEWER;
        }
        weigh(worths, table, now.day);
        weigh(laterWorths, other, now.day + n);
        int best = 0;
        int most = -BEYOND;
        for (int one = 0; one < now.stories; one++) {
            for (int later = 0; later < now.stories; later++) {
                int worth = worths[one] + laterWorths[later];
                if (one != later && worth > most) {
                    best = 10 * one + later;
                    most = worth;
                }
            }
        }
        return what == 0 ? best : most;
    }

    public int suppers(int table, int n, int d, int k) {
        if (!within(k, -1, ROW_LENGTH - 1)) {
            return NO_SUCH;
        }
        if (!isTable(table) || !within(n, 1, ROW_LENGTH) || !within(d, 1, 30)) {
            return NOT_AS_TOLD;
        }
        if (k >= n || now.stories == 0) {
            return FEWER;
        }
        weighSuppers(table, n, d);
        int best = 0;
        int most = -BEYOND;
        for (int row = 0; row < 1 << 3 * n; row++) {
            int worth = worthOfRow(row, n);
            if (worth > most) {
                best = row;
                most = worth;
            }
        }
        return k < 0 ? most : storyInRow(best, n, k);
    }

    public int seats(int story, int k) {
        if (!isStory(story) || !within(k, -1, HEARERS - 1)) {
            return NONE;
        }
        if (k >= now.hearers) {
            return NOT_THERE;
        }
        int most = findSeats(knowersThen(story, everybody(), now.day));
        return k < 0 ? most : bestOrder[k];
    }

    public int spared(int hearer, int n) {
        if (hearerAt(hearer) == null) {
            return NO_SUCH;
        }
        if (!within(n, 0, STORIES)) {
            return NOT_AS_TOLD;
        }
        if (n > now.stories) {
            return FEWER;
        }
        weigh(worths, 1 << hearer, now.day);
        int least = BEYOND;
        for (int set = 0; set < 1 << now.stories; set++) {
            if (Integer.bitCount(set) == n) {
                least = Math.min(least, sumOf(worths, set));
            }
        }
        return least;
    }

    // ---- faces, odds, books

    public int see(int story, int set) {
        if (story == -1) {
            now.faces = 0;
            return 0;
        }
        if (!isStory(story)) {
            return NONE;
        }
        if (!isTable(set)) {
            return BAD;
        }
        if (now.faces >= FACES) {
            return FULL;
        }
        now.faceStory[now.faces] = story;
        now.faceSet[now.faces] = set;
        now.faces++;
        return now.faces;
    }

    public int guess(int hearer) {
        if (hearerAt(hearer) == null) {
            return NONE;
        }
        int had = 0;
        for (int i = 0; i < now.faces; i++) {
            int story = now.faceStory[i];
            if (in(now.faceSet[i], hearer) && laughNow(hearer, story) >= 0) {
                had |= 1 << story;
            }
        }
        return had;
    }

    public long odds(int story, int part) {
        if (!isStory(story) || !within(part, 0, 1)) {
            return NO;
        }
        for (int h = 0; h < now.hearers; h++) {
            laughs[h] = laughNow(h, story);
        }
        int tables = 1 << now.hearers;
        int glad = 0;
        for (int table = 0; table < tables; table++) {
            if (sumOf(laughs, table) > 0) {
                glad++;
            }
        }
        return partOf(glad, tables, part);
    }

    public long mean(int table, int part) {
        if (!isTable(table) || !within(part, 0, 1) || now.stories == 0) {
            return NO;
        }
        weigh(worths, table, now.day);
        return partOf(sumOf(worths, (1 << now.stories) - 1), now.stories, part);
    }

    public int book(int story) {
        if (story == -1) {
            now.entries = 0;
            return 0;
        }
        if (!isStory(story)) {
            return NONE;
        }
        if (now.entries >= ENTRIES) {
            return FULL;
        }
        now.book[now.entries] = story;
        now.entries++;
        return now.entries;
    }

    public int looked() {
        for (int i = 0; i < now.entries; i++) {
            int more = 0;
            int lately = 0;
            for (int earlier = 0; earlier < i; earlier++) {
                if (now.book[earlier] == now.book[i]) {
                    more++;
                    lately = now.day + earlier;
                }
            }
            if (laughterThen(now.book[i], everybody(), now.day + i, more, lately) <= 0) {
                return i;
            }
        }
        return NOT_THERE;
    }

    // ---- judging, the image, acts, tapes

    public int judge(int tape, int i) {
        Tape row = tapeAt(tape);
        if (row == null) {
            return NONE;
        }
        if (row.sort != Tape.EMPTY && row.sort != Tape.INTS) {
            return CAST;
        }
        for (int story = 0; story < now.stories; story++) {
            if (i < 0 || i >= row.size - story) {
                return 100 + story;
            }
            int times = now.hearers == 0 ? 0 : timesOf(0, story);
            if (row.items[i + story] != times) {
                return story;
            }
        }
        return NOT_THERE;
    }

    public int image() {
        kept.become(now);
        imaged = true;
        return now.hearers;
    }

    public int undo() {
        if (!imaged) {
            return STATE;
        }
        now.become(kept);
        return now.hearers;
    }

    public int act(int hearer, int act, int x) {
        trace.clear();
        Hearer one = hearerAt(hearer);
        if (one == null) {
            return 0;
        }
        switch (act) {
            case 0:
                return one.hears(x);
            case 1:
                return one.laughs(x);
            case 2:
                return one.tells(x);
            default:
                return 0;
        }
    }

    public int trace(int i) {
        return within(i, 0, trace.keptBodies() - 1) ? trace.bodies[i] : NONE;
    }

    public int taken(int hearer, int k) {
        if (!within(k, 0, Hearer.KINDS - 1)) {
            return BAD;
        }
        Hearer one = hearerAt(hearer);
        if (one == null) {
            return NOTHING;
        }
        return isOfKind(one, k) ? one.kind : CAST;
    }

    public int count(int what) {
        switch (what) {
            case 0:
                return now.hearers;
            case 1:
                return now.stories;
            case 2:
                return built;
            case 3:
                return now.faces;
            case 4:
                return now.entries;
            case 5:
                return typed;
            case 6:
                return trace.ran;
            default:
                return BAD;
        }
    }

    public int tape(int tape, int sort, int n) {
        Tape row = tapeAt(tape);
        if (row == null) {
            return NONE;
        }
        if (sort == Tape.EMPTY) {
            row.renew(Tape.EMPTY, 0);
            return 1;
        }
        if (!within(sort, Tape.BYTES, Tape.BOOLEANS) || n > ITEMS) {
            return BAD;
        }
        if (n < 0) {
            return SIZE;
        }
        row.renew(sort, n);
        return 1;
    }

    public int item(int tape, int i, long v) {
        Tape row = tapeAt(tape);
        if (row == null) {
            return NONE;
        }
        if (row.sort == Tape.EMPTY) {
            return NOTHING;
        }
        if (!within(i, 0, row.size - 1)) {
            return PLACE;
        }
        row.items[i] = row.fitted(v);
        return 1;
    }

    public long read(int tape, int i) {
        Tape row = tapeAt(tape);
        if (row == null || !within(i, 0, row.size - 1)) {
            return NO;
        }
        return row.items[i];
    }

    public int shift(int tape, int i, int other, int j, int n) {
        Tape from = tapeAt(tape);
        Tape to = tapeAt(other);
        if (from == null || to == null) {
            return NONE;
        }
        if (from.sort == Tape.EMPTY || to.sort == Tape.EMPTY) {
            return NOTHING;
        }
        if (from.sort != to.sort) {
            return CAST;
        }
        if (!from.hasRun(i, n) || !to.hasRun(j, n)) {
            return PLACE;
        }
        System.arraycopy(from.items, i, to.items, j, n);
        return n;
    }

    // ---- what is there

    private static boolean within(int n, int least, int most) {
        return n >= least && n <= most;
    }

    private static boolean isGood(int n) {
        return within(n, 1, 30);
    }

    private static boolean in(int set, int member) {
        return (set >> member & 1) == 1;
    }

    private boolean isStory(int story) {
        return within(story, 0, now.stories - 1);
    }

    private int everybody() {
        return (1 << now.hearers) - 1;
    }

    private boolean isTable(int table) {
        return within(table, 0, everybody());
    }

    private Hearer hearerAt(int hearer) {
        return within(hearer, 0, now.hearers - 1) ? now.who[hearer] : null;
    }

    private Tape tapeAt(int tape) {
        return within(tape, 0, TAPES - 1) ? tapes[tape] : null;
    }

    private House holding() {
        return within(now.holds, 0, built - 1) ? houses[now.holds] : null;
    }

    private int daysTold() {
        House house = holding();
        return house == null ? DAYS_WITHOUT : house.days;
    }

    private int faceTold() {
        House house = holding();
        return house == null ? FACE_WITHOUT : house.face;
    }

    private int timesOf(int hearer, int story) {
        return now.times[hearer * STORIES + story];
    }

    private void setHad(int hearer, int story, int times) {
        int place = hearer * STORIES + story;
        now.times[place] = times;
        now.last[place] = now.day;
    }

    private Hearer newHearer(int kind, int number, int v) {
        switch (kind) {
            case 1:
                return new Polite(kind, number, v, trace);
            case 2:
                return new Bored(kind, number, v, trace);
            case 3:
                return new Forgetful(kind, number, v, trace);
            case 4:
                return new Helping(kind, number, v, trace);
            case 5:
                return new Childish(kind, number, v, trace);
            case 6:
                return new Told(kind, number, v, trace);
            default:
                return new Hearer(kind, number, v, trace);
        }
    }

    private static boolean isOfKind(Hearer one, int kind) {
        switch (kind) {
            case 1:
                return one instanceof Polite;
            case 2:
                return one instanceof Bored;
            case 3:
                return one instanceof Forgetful;
            case 4:
                return one instanceof Helping;
            case 5:
                return one instanceof Childish;
            case 6:
                return one instanceof Told;
            default:
                return true;
        }
    }

    // ---- knowing and laughing: "then" is a day on which nothing else has changed,
    // but that the story may have been told some times more by then, lately on a day.

    private boolean knowsThen(Hearer one, int times, int last, int day) {
        int part = now.rows[one.number * PARTS + day % PARTS];
        return times > 0 && day - last < one.memory(daysTold(), part);
    }

    private int knowersThen(int story, int table, int day) {
        int knowers = 0;
        for (int h = 0; h < now.hearers; h++) {
            Hearer one = hearerAt(h);
            if (one != null && in(table, h)
                    && knowsThen(one, timesOf(h, story), now.last[h * STORIES + story], day)) {
                knowers |= 1 << h;
            }
        }
        return knowers;
    }

    private int moodThen(Hearer one, int story, int times, int day) {
        House house = holding();
        if (house == null) {
            return 0;
        }
        facts[House.NUMBER] = one.number;
        facts[House.KIND] = one.kind;
        facts[House.STORY] = story;
        facts[House.GOOD] = now.good[story];
        facts[House.TIMES] = Math.min(times, 99);
        facts[House.WEEKDAY] = day % 7;
        return house.moodBy(facts);
    }

    private int laughThen(int hearer, int story, int day, int more, int lately) {
        Hearer one = hearerAt(hearer);
        if (one == null) {
            return 0;
        }
        int times = Math.min(MOST_TIMES, timesOf(hearer, story) + more);
        int last = more > 0 ? lately : now.last[hearer * STORIES + story];
        int g = now.good[story] + moodThen(one, story, times, day);
        return knowsThen(one, times, last, day) ? one.whenKnown(g, faceTold())
                : one.whenNew(g, times);
    }

    private int laughNow(int hearer, int story) {
        return laughThen(hearer, story, now.day, 0, 0);
    }

    private int laughterThen(int story, int table, int day, int more, int lately) {
        int sum = 0;
        for (int h = 0; h < now.hearers; h++) {
            if (in(table, h)) {
                sum += laughThen(h, story, day, more, lately);
            }
        }
        return sum;
    }

    private int laughter(int story, int table) {
        return laughterThen(story, table, now.day, 0, 0);
    }

    // ---- weighing and choosing

    /** Each story's laughter at the table on the day. */
    private void weigh(int[] row, int table, int day) {
        for (int story = 0; story < now.stories && story < row.length; story++) {
            row[story] = laughterThen(story, table, day, 0, 0);
        }
    }

    /** The first story of most worth that is not told yet; -1 if all are. */
    private int bestBeside(int told) {
        int best = -1;
        for (int story = 0; story < now.stories; story++) {
            if (!in(told, story) && (best < 0 || worths[story] > worths[best])) {
                best = story;
            }
        }
        return best;
    }

    private static int sumOf(int[] row, int set) {
        int sum = 0;
        for (int i = 0; i < row.length; i++) {
            if (in(set, i)) {
                sum += row[i];
            }
        }
        return sum;
    }

    /** A part of the fraction in lowest terms; below is above 0. */
    private static int partOf(int above, int below, int part) {
        int common = 1;
        for (int n = 2; n <= below; n++) {
            if (above % n == 0 && below % n == 0) {
                common = n;
            }
        }
        return (part == 0 ? above : below) / common;
    }

    // What a supper is worth hangs on its place, its story, and at which earlier
    // suppers (bits) that story was told: few cases, though there are 512 rows.

    private static int supperPlace(int place, int story, int earlier) {
        return (place * STORIES + story) * EARLIER + earlier;
    }

    private void weighSuppers(int table, int n, int d) {
        for (int place = 0; place < n; place++) {
            for (int story = 0; story < now.stories; story++) {
                for (int earlier = 0; earlier < 1 << place; earlier++) {
                    // Of bits 1, 2 and 3 the highest stands for supper 0, 1 and 1.
                    int lately = now.day + (earlier >> 1) * d;
                    supperWorths[supperPlace(place, story, earlier)] = laughterThen(story, table,
                            now.day + place * d, Integer.bitCount(earlier), lately);
                }
            }
        }
    }

    /** A row is a number of n octal digits, the first story the highest digit. */
    private static int storyInRow(int row, int n, int place) {
        return row >> 3 * (n - 1 - place) & 7;
    }

    /** Less than any row is worth, if a digit of it is no story. */
    private int worthOfRow(int row, int n) {
        int worth = 0;
        for (int place = 0; place < n; place++) {
            int story = storyInRow(row, n, place);
            if (!isStory(story)) {
                return -BEYOND;
            }
            int earlier = 0;
            for (int before = 0; before < place; before++) {
                if (storyInRow(row, n, before) == story) {
                    earlier |= 1 << before;
                }
            }
            worth += supperWorths[supperPlace(place, story, earlier)];
        }
        return worth;
    }

    /** How many the best order seats well; the order is left in bestOrder. */
    private int findSeats(int knowers) {
        for (int i = 0; i < now.hearers; i++) {
            order[i] = i;
        }
        int most = -1;
        boolean more = true;
        // 120 orders at most: HEARER 0 keeps its seat.
        for (int i = 0; i < 120 && more; i++) {
            int served = servedBy(knowers);
            if (served > most) {
                most = served;
                copy(order, bestOrder);
            }
            more = nextOrder();
        }
        return most;
    }

    private int servedBy(int knowers) {
        int seats = now.hearers;
        int served = 0;
        for (int i = 0; i < seats; i++) {
            int right = order[i + 1 < seats ? i + 1 : 0];
            int left = order[i > 0 ? i - 1 : seats - 1];
            if (!in(knowers, order[i]) && (in(knowers, left) || in(knowers, right))) {
                served++;
            }
        }
        return served;
    }

    /** Makes the order the next one as a row; false if it was the last with its first seat. */
    private boolean nextOrder() {
        int rise = now.hearers - 2;
        while (rise > 0 && order[rise] > order[rise + 1]) {
            rise--;
        }
        if (rise <= 0) {
            return false;
        }
        int next = now.hearers - 1;
        while (next > rise && order[next] < order[rise]) {
            next--;
        }
        swapSeats(rise, next);
        int low = rise + 1;
        for (int high = now.hearers - 1; low < high; high--) {
            swapSeats(low, high);
            low++;
        }
        return true;
    }

    private void swapSeats(int one, int other) {
        int moved = order[one];
        order[one] = order[other];
        order[other] = moved;
    }

    private static void copy(int[] from, int[] to) {
        for (int i = 0; i < from.length && i < to.length; i++) {
            to[i] = from[i];
        }
    }

    /** All that an image brings back. */
    private static final class State {
        int day = 0;
        int holds = -1;
        int stories = 0;
        int hearers = 0;
        int faces = 0;
        int entries = 0;
        final int[] good = new int[STORIES];
        final int[] minutes = new int[STORIES];
        final Hearer[] who = new Hearer[HEARERS];
        final int[] times = new int[HEARERS * STORIES];
        final int[] last = new int[HEARERS * STORIES];
        final int[] rows = new int[HEARERS * PARTS];
        final int[] faceStory = new int[FACES];
        final int[] faceSet = new int[FACES];
        final int[] book = new int[ENTRIES];

        State() {
            for (int i = 0; i < rows.length; i++) {
                rows[i] = 1;
            }
        }

        void become(State other) {
            day = other.day;
            holds = other.holds;
            stories = other.stories;
            hearers = other.hearers;
            faces = other.faces;
            entries = other.entries;
            copy(other.good, good);
            copy(other.minutes, minutes);
            for (int i = 0; i < who.length && i < other.who.length; i++) {
                who[i] = other.who[i];
            }
            copy(other.times, times);
            copy(other.last, last);
            copy(other.rows, rows);
            copy(other.faceStory, faceStory);
            copy(other.faceSet, faceSet);
            copy(other.book, book);
        }
    }

    /** The numbers of the bodies that ran in the latest act. */
    private static final class Trace {
        final int[] bodies = new int[20];
        int ran = 0;

        void clear() {
            ran = 0;
        }

        void begin(int body) {
            if (ran < bodies.length) {
                bodies[ran] = body;
            }
            ran++;
        }

        int keptBodies() {
            return Math.min(ran, bodies.length);
        }
    }

    private static class Hearer {
        static final int KINDS = 7;

        final int kind;
        final int number;
        final int v;
        final Trace trace;

        Hearer(int kind, int number, int v, Trace trace) {
            this.kind = kind;
            this.number = number;
            this.v = v;
            this.trace = trace;
        }

        /** It KNOWS a story that it had fewer days ago than this. */
        int memory(int days, int part) {
            return days;
        }

        int whenNew(int g, int times) {
            return g;
        }

        int whenKnown(int g, int face) {
            return -face;
        }

        int hears(int x) {
            trace.begin(10);
            return x + number;
        }

        int laughs(int x) {
            trace.begin(11);
            return hears(x) - v;
        }

        int tells(int x) {
            trace.begin(12);
            return laughs(x) * 2;
        }
    }

    private static class Polite extends Hearer {
        Polite(int kind, int number, int v, Trace trace) {
            super(kind, number, v, trace);
        }

        int whenKnown(int g, int face) {
            return 0;
        }

        int laughs(int x) {
            trace.begin(20);
            return super.laughs(x) ^ 6;
        }
    }

    private static class Bored extends Hearer {
        Bored(int kind, int number, int v, Trace trace) {
            super(kind, number, v, trace);
        }

        int whenNew(int g, int times) {
            return g - times;
        }

        int whenKnown(int g, int face) {
            return -2 * face;
        }

        int hears(int x) {
            trace.begin(30);
            return super.hears(x * 3);
        }
    }

    private static class Forgetful extends Hearer {
        Forgetful(int kind, int number, int v, Trace trace) {
            super(kind, number, v, trace);
        }

        int memory(int days, int part) {
            return days / 2;
        }

        int tells(int x) {
            trace.begin(40);
            return super.tells(x) + laughs(1);
        }
    }

    private static final class Helping extends Polite {
        Helping(int kind, int number, int v, Trace trace) {
            super(kind, number, v, trace);
        }

        int whenKnown(int g, int face) {
            return v;
        }

        int hears(int x) {
            trace.begin(50);
            return -super.hears(x);
        }

        int laughs(int x) {
            trace.begin(51);
            return super.laughs(x + 1);
        }
    }

    private static final class Childish extends Bored {
        Childish(int kind, int number, int v, Trace trace) {
            super(kind, number, v, trace);
        }

        int memory(int days, int part) {
            return 2 * days;
        }

        int whenKnown(int g, int face) {
            return g + v;
        }

        int tells(int x) {
            trace.begin(60);
            return super.tells(x - number);
        }
    }

    private static final class Told extends Forgetful {
        Told(int kind, int number, int v, Trace trace) {
            super(kind, number, v, trace);
        }

        int memory(int days, int part) {
            return part > 0 ? days / part : days;
        }

        int laughs(int x) {
            trace.begin(70);
            return super.laughs(x) + super.hears(2);
        }

        int hears(int x) {
            trace.begin(71);
            return super.hears(x) ^ v;
        }
    }

    /** A text of clauses, learnt as steps that are done on bits, one behind the other. */
    private static final class House {
        static final String LETTERS = "hksgtw", SIGNS = "<=>";
        static final int NUMBER = 0, KIND = 1, STORY = 2, GOOD = 3, TIMES = 4, WEEKDAY = 5;
        static final int FACTS = 6;

        private static final int FUN = 0, SOUR = 1, DAYS = 2, FACE = 3, WORDS = 4;
        private static final int CLAUSES = 10, DEEPEST = 4, DIGITS = 2, END = -1, RIGHT = -1;
        // A step below these is a test: RELATIONS times its letter, and its sign.
        private static final int RELATIONS = 3, NOT = 18, AND = 19, OR = 20, WORTH = 21;

        private final int[] step = new int[TEXT];
        private final int[] number = new int[TEXT];
        private int steps = 0;
        int days = DAYS_WITHOUT;
        int face = FACE_WITHOUT;

        private byte[] text = new byte[0];
        private int length = 0;
        private int at = 0;

        /** The FAULT, or -1 if there is none. */
        int learn(byte[] bytes, int typed) {
            text = bytes;
            length = Math.min(typed, bytes.length);
            at = 0;
            steps = 0;
            days = DAYS_WITHOUT;
            face = FACE_WITHOUT;
            for (int clause = 1; clause <= CLAUSES && learnClause(); clause++) {
                if (at == length) {
                    return RIGHT;
                }
                if (clause == CLAUSES || !goBy(';')) {
                    return at;
                }
            }
            return at;
        }

        // Where one of these answers false (a number: -1), at is the place of the fault.

        private boolean learnClause() {
            int word = goByWord();
            if (word < 0 || !goBy(' ')) {
                return false;
            }
            int n = goByNumber();
            if (n < 0) {
                return false;
            }
            switch (word) {
                case DAYS:
                    days = n;
                    return true;
                case FACE:
                    face = n;
                    return true;
                default:
                    return goBy(' ') && learnEither(0) && add(WORTH, word == FUN ? n : -n);
            }
        }

        private boolean learnEither(int depth) {
            boolean right = learnBoth(depth);
            for (int i = 0; i < TEXT && right && goBy('|'); i++) {
                right = learnBoth(depth) && add(OR, 0);
            }
            return right;
        }

        private boolean learnBoth(int depth) {
            boolean right = learnPart(depth);
            for (int i = 0; i < TEXT && right && goBy('&'); i++) {
                right = learnPart(depth) && add(AND, 0);
            }
            return right;
        }

        private boolean learnPart(int depth) {
            int sign = signAt(at);
            if (sign == '!' || sign == '(') {
                if (depth >= DEEPEST) {
                    return false;
                }
                at++;
                return sign == '!' ? learnPart(depth + 1) && add(NOT, 0)
                        : learnEither(depth + 1) && goBy(')');
            }
            int letter = goByOneOf(LETTERS);
            int relation = letter < 0 ? -1 : goByOneOf(SIGNS);
            int n = relation < 0 ? -1 : goByNumber();
            return n >= 0 && add(RELATIONS * letter + relation, n);
        }

        private boolean add(int what, int n) {
            if (steps >= step.length) {
                return false;
            }
            step[steps] = what;
            number[steps] = n;
            steps++;
            return true;
        }

        private int signAt(int place) {
            return place < length ? text[place] : END;
        }

        private boolean goBy(int sign) {
            if (signAt(at) != sign) {
                return false;
            }
            at++;
            return true;
        }

        private int goByOneOf(String signs) {
            for (int i = 0; i < signs.length(); i++) {
                if (signAt(at) == signs.charAt(i)) {
                    at++;
                    return i;
                }
            }
            return -1;
        }

        private int goByNumber() {
            int n = -1;
            for (int i = 0; i < DIGITS && signAt(at) >= '0' && signAt(at) <= '9'; i++) {
                n = Math.max(n, 0) * 10 + signAt(at) - '0';
                at++;
            }
            return n;
        }

        private int goByWord() {
            int furthest = 0;
            for (int i = 0; i < WORDS; i++) {
                String word = wordOf(i);
                int alike = alike(word);
                if (alike == word.length()) {
                    at += alike;
                    return i;
                }
                furthest = Math.max(furthest, alike);
            }
            // Words begin alike: the fault lies where the one that goes furthest ends.
            at += furthest;
            return -1;
        }

        private static String wordOf(int word) {
            switch (word) {
                case FUN:
                    return "fun";
                case SOUR:
                    return "sour";
                case DAYS:
                    return "days";
                default:
                    return "face";
            }
        }

        private int alike(String word) {
            int n = 0;
            while (n < word.length() && signAt(at + n) == word.charAt(n)) {
                n++;
            }
            return n;
        }

        int moodBy(int[] facts) {
            int mood = 0;
            // What holds, as bits: the latest one is the lowest.
            int held = 0;
            for (int i = 0; i < steps; i++) {
                int low = held & 1;
                switch (step[i]) {
                    case NOT:
                        held ^= 1;
                        break;
                    case AND:
                        held = held >> 1 & (low | ~1);
                        break;
                    case OR:
                        held = held >> 1 | low;
                        break;
                    case WORTH:
                        held >>= 1;
                        mood += low * number[i];
                        break;
                    default:
                        held = held << 1 | (holds(i, facts) ? 1 : 0);
                        break;
                }
            }
            return mood;
        }

        private boolean holds(int test, int[] facts) {
            int letter = step[test] / RELATIONS;
            int fact = letter < facts.length ? facts[letter] : 0;
            switch (step[test] % RELATIONS) {
                case 0:
                    return fact < number[test];
                case 1:
                    return fact == number[test];
                default:
                    return fact > number[test];
            }
        }
    }

    private static final class Tape {
        static final int EMPTY = -1, BYTES = 0, SHORTS = 1, INTS = 2, LONGS = 3, BOOLEANS = 4;

        final long[] items = new long[ITEMS];
        int sort = EMPTY;
        int size = 0;

        void renew(int sort, int size) {
            this.sort = sort;
            this.size = Math.max(0, Math.min(size, items.length));
            for (int i = 0; i < items.length; i++) {
                items[i] = 0;
            }
        }

        /** Its lowest bits, as many as an item has. */
        long fitted(long v) {
            switch (sort) {
                case BYTES:
                    return (byte) v;
                case SHORTS:
                    return (short) v;
                case INTS:
                    return (int) v;
                case BOOLEANS:
                    return v != 0 ? 1 : 0;
                default:
                    return v;
            }
        }

        boolean hasRun(int from, int n) {
            return from >= 0 && n >= 0 && n <= size - from;
        }
    }
}
