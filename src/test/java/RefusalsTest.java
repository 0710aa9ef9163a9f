/** Promises 3 to 52: each number behind NONE, false, -1 or Long.MIN_VALUE, and that nothing changes by it. */
public final class RefusalsTest {
    private static final long LEAST = Long.MIN_VALUE;
    private static final String WAR = "field lanes 4 deep 2;lane 0 foot 12;lane 1 horse 3;lane 2 pigs"
        + ";beast e plain in 0 mood 80 price 40;beast c calf in 1 mood 60 price 10"
        + ";beast d drunk in 2 mood 25 price 50;city a;city b;city x;pass a b loses 50;pass a x loses 10;turned c";
    private static final int[] NO_BEASTS = {-1, 3, 5, 31, 32, 33, Integer.MIN_VALUE, Integer.MAX_VALUE};
    private static final int[] NO_LANES = {-1, 4, 6, 32, Integer.MIN_VALUE, Integer.MAX_VALUE};
    private static final int[] NO_CITIES = {-1, 3, 6, 32, Integer.MIN_VALUE, Integer.MAX_VALUE};

    /** A call with one number that is looked at. */
    private interface Call {
        long of(ElephantLine x, int n);
    }

    public static void main(String[] args) {
        beasts();
        lanes();
        cities();
        noWar();
        numbers();
        notSo();
        firstTrouble();
        noTrouble();
        Check.end("RefusalsTest");
    }

    private static long of(boolean is) {
        return is ? 1 : 0;
    }

    private static void refused(String name, int[] bad, int trouble, long answer, Call call) {
        ElephantLine fresh = new ElephantLine();
        ElephantLine x = Check.told(WAR);
        for (int n : bad) {
            Check.due(name + " " + n, answer, call.of(x, n), trouble, x);
            Check.due("where behind " + name, -1, x.where());
            if (trouble == 1) {
                Check.due("no WAR: " + name + " " + n, answer, call.of(fresh, n), 1, fresh);
            }
        }
        Check.due("no WAR: " + name, answer, call.of(fresh, 0), 1, fresh);
        Check.due("no act by " + name, 0, x.size(9));
        Check.due("no seed by " + name, 0, x.size(8));
        Check.due("no mark by " + name, 0, x.size(10));
        Check.due("fine behind " + name, 0, x.lane(0, 0) - 2, 0, x);
    }

    private static void beasts() {
        refused("beast", NO_BEASTS, 1, -1, (x, b) -> x.beast(b, 0));
        refused("across", NO_BEASTS, 1, -1, (x, b) -> x.across(b, true));
        refused("meets", NO_BEASTS, 1, -1, (x, b) -> x.meets(b, 0, true));
        refused("mean", NO_BEASTS, 1, -1, (x, b) -> x.mean(b, 0, true, true));
        refused("worth", NO_BEASTS, 1, LEAST, (x, b) -> x.worth(b, 0, true));
        refused("bestLane", NO_BEASTS, 1, -1, (x, b) -> x.bestLane(b));
        refused("worthIf", NO_BEASTS, 1, LEAST, (x, b) -> x.worthIf(b, 0, true, true));
        refused("moodFor", NO_BEASTS, 1, -1, (x, b) -> x.moodFor(b, 0));
        refused("place", NO_BEASTS, 1, -1, (x, b) -> x.place(b));
        refused("rests", NO_BEASTS, 1, -1, (x, b) -> x.rests(b));
        refused("rest", NO_BEASTS, 1, -1, (x, b) -> x.rest(b));
        refused("turnedBy", NO_BEASTS, 1, -1, (x, b) -> x.turnedBy(b));
        refused("acrossIn", NO_BEASTS, 1, -1, (x, b) -> x.acrossIn(b, 0, 1));
        refused("move", NO_BEASTS, 1, 0, (x, b) -> of(x.move(b, 3)));
        refused("wound", NO_BEASTS, 1, -1, (x, b) -> x.wound(b, 1));
        refused("hammer", NO_BEASTS, 1, 0, (x, b) -> of(x.hammer(b)));
        refused("beast what", new int[] {-1, 8, Integer.MIN_VALUE, Integer.MAX_VALUE}, 1, -1, (x, w) -> x.beast(0, w));
    }

    private static void lanes() {
        refused("lane", NO_LANES, 1, -1, (x, l) -> x.lane(l, 0));
        refused("meets", NO_LANES, 1, -1, (x, l) -> x.meets(0, l, false));
        refused("mean", NO_LANES, 1, -1, (x, l) -> x.mean(0, l, false, false));
        refused("worth", NO_LANES, 1, LEAST, (x, l) -> x.worth(0, l, false));
        refused("worthIf", NO_LANES, 1, LEAST, (x, l) -> x.worthIf(0, l, false, false));
        refused("moodFor", NO_LANES, 1, -1, (x, l) -> x.moodFor(0, l));
        refused("weeks", NO_LANES, 1, -1, (x, l) -> x.weeks(l));
        refused("move", NO_LANES, 1, 0, (x, l) -> of(x.move(0, l)));
        refused("teach", NO_LANES, 1, -1, (x, l) -> x.teach(l, 1));
        refused("lane what", new int[] {-1, 3, Integer.MIN_VALUE, Integer.MAX_VALUE}, 1, -1, (x, w) -> x.lane(0, w));
    }

    private static void cities() {
        refused("march from", NO_CITIES, 1, -1, (x, c) -> x.march(c, 0, 5));
        refused("march to", NO_CITIES, 1, -1, (x, c) -> x.march(0, c, 5));
        refused("marchAt from", NO_CITIES, 1, -1, (x, c) -> x.marchAt(c, 0, 5, 0));
        refused("marchAt to", NO_CITIES, 1, -1, (x, c) -> x.marchAt(0, c, 5, 0));
        refused("marchAt i", new int[] {-1, 2, 6, Integer.MIN_VALUE, Integer.MAX_VALUE}, 1, -1, (x, i) -> x.marchAt(0, 1, 5, i));
        refused("reach", NO_CITIES, 1, -1, (x, c) -> x.reach(c));
        refused("worstPass from", NO_CITIES, 1, -1, (x, c) -> x.worstPass(c, 0, 5));
        refused("worstPass to", NO_CITIES, 1, -1, (x, c) -> x.worstPass(0, c, 5));
        refused("setOut from", NO_CITIES, 1, -1, (x, c) -> x.setOut(c, 0, 5));
        refused("setOut to", NO_CITIES, 1, -1, (x, c) -> x.setOut(0, c, 5));
    }

    private static void noWar() {
        int[] none = {};
        refused("all", none, 1, -1, (x, n) -> x.all(true, false));
        refused("worst", none, 1, -1, (x, n) -> x.worst());
        refused("toHammer", none, 1, -1, (x, n) -> x.toHammer());
        refused("placed", none, 1, LEAST, (x, n) -> x.placed(false));
        refused("out", none, 1, -1, (x, n) -> x.out());
        refused("toOpen", none, 1, -1, (x, n) -> x.toOpen());
        refused("fits", none, 1, -1, (x, n) -> x.fits());
        refused("could", none, 1, -1, (x, n) -> x.could());
        refused("surely", none, 1, -1, (x, n) -> x.surely());
        refused("ask", none, 1, -1, (x, n) -> x.ask());
        refused("rain", none, 1, 0, (x, n) -> of(x.rain(false)));
        refused("rain", none, 1, 0, (x, n) -> of(x.rain(true)));
        refused("battle", none, 1, -1, (x, n) -> x.battle());
        refused("mark", none, 1, -1, (x, n) -> x.mark());
        refused("back", new int[] {-1, 0, 1, 2, 3, Integer.MIN_VALUE, Integer.MAX_VALUE}, 1, 0, (x, n) -> of(x.back(n)));
        ElephantLine fresh = new ElephantLine();
        Check.due("no WAR: undo", false, fresh.undo(), 6, fresh);
        Check.dueThrow("no WAR: led", fresh, 0);
    }

    private static void numbers() {
        within("sale", 0, 500, -1, (x, n) -> x.sale(n));
        within("saleOver", 0, 500, -1, (x, n) -> x.saleOver(n));
        within("march", 0, 999, -1, (x, n) -> x.march(0, 1, n));
        within("marchAt", 0, 999, -1, (x, n) -> x.marchAt(0, 1, n, 0));
        within("worstPass", 0, 999, -1, (x, n) -> x.worstPass(0, 1, n));
        within("setOut", 0, 999, -1, (x, n) -> x.setOut(0, 1, n));
        within("battles n", 1, 90, -1, (x, n) -> x.battles(0, n, true));
        within("battles seed", 0, 65_536, -1, (x, n) -> x.battles(n, 1, true));
        within("won n", 1, 90, -1, (x, n) -> x.won(0, n));
        within("won seed", 0, 65_536, -1, (x, n) -> x.won(n, 1));
        within("acrossIn n", 1, 90, -1, (x, n) -> x.acrossIn(0, 0, n));
        within("acrossIn seed", 0, 65_536, -1, (x, n) -> x.acrossIn(0, n, 1));
        within("wound", 1, 30, -1, (x, n) -> x.wound(0, n));
        within("teach", 1, 30, -1, (x, n) -> x.teach(1, n));
        within("seed", 0, 65_536, 0, (x, n) -> of(x.seed(n)));
    }

    private static void within(String name, int least, int most, long answer, Call call) {
        refused(name, new int[] {least - 1, most + 1, Integer.MIN_VALUE, Integer.MAX_VALUE}, 2, answer, call);
        for (int n : new int[] {least, least + 1, most - 1, most}) {
            ElephantLine x = Check.told(WAR);
            long got = call.of(x, n);
            boolean notEnough = name.equals("saleOver") && n > 100;
            Check.due(name + " " + n + " is refused by 2", 0, got == answer && x.trouble() == 2 ? 1 : 0);
            Check.due("trouble of " + name + " " + n, notEnough ? 6 : 0, x.trouble());
        }
    }

    private static void notSo() {
        ElephantLine x = Check.told(WAR);
        for (int l = 0; l < 4; l++) {
            int trouble = l == 1 ? 0 : 5;
            Check.due("weeks " + l, l == 1 ? 15 : -1, x.weeks(l), trouble, x);
            Check.due("teach " + l, l == 1 ? 4 : -1, x.teach(l, 1), trouble, x);
        }
        Check.due("it is there", false, x.move(0, 0), 5, x);
        Check.due("no rain already", false, x.rain(false), 5, x);
        x.rain(true);
        Check.due("rain already", false, x.rain(true), 5, x);
        x.hammer(0);
        Check.due("acts", 3, x.size(9));
        Check.due("dead: move", false, x.move(0, 1), 5, x);
        Check.due("dead: move to its own", false, x.move(0, 0), 5, x);
        Check.due("dead: wound", -1, x.wound(0, 1), 5, x);
        Check.due("dead: hammer", false, x.hammer(0), 5, x);
        Check.due("acts yet", 3, x.size(9));
        Check.due("marks 0", 0, x.mark(), 0, x);
        Check.due("marks 1", 1, x.mark(), 0, x);
        Check.due("marks 2", 2, x.mark(), 0, x);
        Check.due("marks 3", -1, x.mark(), 3, x);
        Check.due("marks", 3, x.size(10));
        Check.due("no mark 3", false, x.back(3), 1, x);
    }

    private static void firstTrouble() {
        ElephantLine x = Check.told(WAR);
        x.hammer(0);
        Check.due("wound 1 ahead of 2", -1, x.wound(9, 0), 1, x);
        Check.due("wound 2 ahead of 5", -1, x.wound(0, 0), 2, x);
        Check.due("teach 1 ahead of 2", -1, x.teach(9, 0), 1, x);
        Check.due("teach 2 ahead of 5", -1, x.teach(0, 0), 2, x);
        Check.due("move 1 ahead of 5", false, x.move(0, 9), 1, x);
        Check.due("march 1 ahead of 2", -1, x.march(0, 9, -1), 1, x);
        Check.due("marchAt 1 ahead of 2", -1, x.marchAt(9, 0, -1, 0), 1, x);
        Check.due("worstPass 1 ahead of 2", -1, x.worstPass(9, 0, -1), 1, x);
        Check.due("setOut 1 ahead of 2", -1, x.setOut(9, 0, -1), 1, x);
        Check.due("acrossIn 1 ahead of 2", -1, x.acrossIn(9, -1, 0), 1, x);
        ElephantLine fresh = new ElephantLine();
        Check.due("sale 1 ahead of 2", -1, fresh.sale(-1), 1, fresh);
        Check.due("saleOver 1 ahead of 2", -1, fresh.saleOver(501), 1, fresh);
        Check.due("battles 1 ahead of 2", -1, fresh.battles(-1, 0, true), 1, fresh);
        Check.due("won 1 ahead of 2", -1, fresh.won(-1, 0), 1, fresh);
        Check.due("seed 1 ahead of 2", false, fresh.seed(-1), 1, fresh);
    }

    private static void noTrouble() {
        ElephantLine x = Check.told(WAR);
        Check.due("a refusal", -1, x.sale(501), 2, x);
        x.feed(0, 0, 0, 0, 0);
        x.fault();
        x.where();
        x.size(99);
        Check.dueThrow("led", x, 0);
        Check.due("calls without a number leave trouble", 2, x.trouble());
        Check.due("-2 is no refusal", -2, x.sale(101), 0, x);
        x.sale(501);
        Check.due("an answer ends trouble", 100, x.saleOver(0) + 100, 0, x);
    }
}
