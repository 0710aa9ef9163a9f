/** Promises 6 to 24: what beasts do now, where they should be placed, what the foe should open. */
public final class NowTest {
    private static final String WAR = "field lanes 4 deep 2;lane 0 foot 12;lane 1 horse 3;lane 2 pigs"
        + ";beast e plain in 0 mood 80 price 40;beast c calf in 1 mood 60 price 10"
        + ";beast d drunk in 2 mood 25 price 50;beast m mailed in 3 mood 51 price 9";

    public static void main(String[] args) {
        lane();
        beast();
        holds();
        across();
        meets();
        mean();
        worth();
        bestLane();
        all();
        worst();
        worthIf();
        moodFor();
        toHammer();
        placing();
        toOpen();
        rests();
        weeks();
        leastParts();
        Check.end("NowTest");
    }

    private static void part(String what, long up, long low, long gotUp, long gotLow) {
        Check.due(what + ", upper", up, gotUp);
        Check.due(what + ", lower", low, gotLow);
    }

    private static void worth(ElephantLine x, int b, int l, long up, long low) {
        part("worth " + b + " in " + l, up, low, x.worth(b, l, false), x.worth(b, l, true));
    }

    private static void lane() {
        ElephantLine x = Check.told(WAR);
        int[][] want = {{2, 12, 1}, {3, 3, 2}, {1, 0, 4}, {0, 0, 8}};
        for (int l = 0; l < 4; l++) {
            for (int what = 0; what < 3; what++) {
                Check.due("lane " + l + " " + what, want[l][what], x.lane(l, what), 0, x);
            }
        }
        x.move(0, 1);
        x.move(3, 1);
        Check.due("three in a lane", 11, x.lane(1, 2));
        Check.due("none in a lane", 0, x.lane(0, 2));
        x.hammer(1);
        Check.due("a dead one isn't in it", 9, x.lane(1, 2));
        x.teach(1, 9);
        Check.due("weeks now", 12, x.lane(1, 1));
    }

    private static void beast() {
        ElephantLine x = Check.told(WAR);
        int[][] want = {{0, 0, 80, 40, 20, 80, 0, 0}, {1, 1, 60, 10, 5, 40, 0, 0},
            {2, 2, 25, 50, 30, 45, 0, 0}, {3, 3, 51, 9, 25, 51, 0, 0}};
        for (int b = 0; b < 4; b++) {
            for (int what = 0; what < 8; what++) {
                Check.due("beast " + b + " " + what, want[b][what], x.beast(b, what), 0, x);
            }
        }
        x.wound(1, 4);
        Check.due("force less wounds", 1, x.beast(1, 4));
        x.wound(1, 30);
        Check.due("force is 0 at least", 0, x.beast(1, 4));
        Check.due("all wounds", 34, x.beast(1, 6));
        Check.due("not dead by wounds", 0, x.beast(1, 7));
        x.hammer(3);
        Check.due("dead", 1, x.beast(3, 7));
        Check.due("dead force", 0, x.beast(3, 4));
        Check.due("dead wounds", 0, x.beast(3, 6));
        Check.due("dead hold", 51, x.beast(3, 5));
        x.move(0, 3);
        Check.due("moved", 3, x.beast(0, 1));
    }

    private static int hold(String kind, int mood, boolean rain) {
        ElephantLine x = Check.told("field lanes 2 deep 1;beast a " + kind + " in 0 mood " + mood + " price 1");
        if (rain) {
            x.rain(true);
        }
        return x.beast(0, 5);
    }

    private static void holds() {
        for (int mood = 0; mood <= 100; mood++) {
            for (boolean rain : new boolean[] {false, true}) {
                Check.due("plain " + mood, mood, hold("plain", mood, rain));
                Check.due("calf " + mood, mood < 20 ? 0 : mood - 20, hold("calf", mood, rain));
                Check.due("drunk " + mood, mood > 80 ? 100 : mood + 20, hold("drunk", mood, rain));
                Check.due("mailed " + mood, rain ? mood / 2 : mood, hold("mailed", mood, rain));
            }
        }
    }

    private static void across() {
        ElephantLine x = Check.told(WAR);
        long[][] want = {{16, 25}, {4, 25}, {81, 400}, {2601, 10_000}};
        for (int b = 0; b < 4; b++) {
            part("across " + b, want[b][0], want[b][1], x.across(b, false), x.across(b, true));
        }
        x.rain(true);
        part("across in rain", 1, 16, x.across(3, false), x.across(3, true));
        x.hammer(0);
        part("a dead one does nothing", 0, 1, x.across(0, false), x.across(0, true));
        x = Check.told("field lanes 2 deep 5;beast a plain in 0 mood 51 price 1;beast b calf in 0 mood 20 price 1"
            + ";beast c drunk in 0 mood 80 price 1;beast d plain in 0 mood 1 price 1");
        part("five steps", 345_025_251, 10_000_000_000L, x.across(0, false), x.across(0, true));
        part("never", 0, 1, x.across(1, false), x.across(1, true));
        part("always", 1, 1, x.across(2, false), x.across(2, true));
        part("one in a hundred", 1, 10_000_000_000L, x.across(3, false), x.across(3, true));
    }

    private static void met(String kind, String who, int wounds, int foe, int own) {
        ElephantLine x = Check.told("field lanes 2 deep 1;lane 1 " + who + ";beast a " + kind + " in 0 mood 7 price 1");
        for (int left = wounds; left > 0; left -= 30) {
            x.wound(0, Math.min(30, left));
        }
        Check.due(kind + " meets " + who + " wounded " + wounds, foe, x.meets(0, 1, false), 0, x);
        Check.due(kind + " meets " + who + ", own, wounded " + wounds, own, x.meets(0, 1, true), 0, x);
        x.hammer(0);
        Check.due("dead " + kind + " meets " + who, 0, x.meets(0, 1, false));
        Check.due("dead " + kind + " meets " + who + ", own", 0, x.meets(0, 1, true));
    }

    private static void meets() {
        met("plain", "open", 0, 0, 0);
        met("plain", "foot 19", 0, 19, 0);
        met("plain", "foot 20", 0, 10, 20);
        met("plain", "foot 60", 0, 10, 20);
        met("plain", "foot 0", 0, 0, 0);
        met("plain", "foot 0", 20, 0, 0);
        met("plain", "foot 15", 5, 7, 15);
        met("calf", "foot 4", 0, 4, 0);
        met("calf", "foot 5", 0, 2, 5);
        met("drunk", "foot 30", 0, 15, 30);
        met("mailed", "foot 25", 0, 12, 25);
        met("mailed", "foot 24", 0, 24, 0);
        met("plain", "horse 0", 0, 15, 0);
        met("plain", "horse 7", 0, 15, 0);
        met("calf", "horse 7", 30, 15, 0);
        met("plain", "horse 8", 0, 12, 0);
        met("plain", "horse 20", 0, 0, 0);
        met("plain", "horse 30", 0, 0, 0);
        met("calf", "horse 8", 0, 0, 0);
        met("drunk", "horse 29", 0, 1, 0);
        met("plain", "pigs", 0, 0, 20);
        met("calf", "pigs", 0, 0, 5);
        met("mailed", "pigs", 5, 0, 20);
        met("drunk", "pigs", 0, 10, 0);
        met("drunk", "pigs", 30, 10, 0);
    }

    private static void mean() {
        ElephantLine x = Check.told(WAR);
        part("foot", 192, 25, x.mean(0, 0, false, false), x.mean(0, 0, false, true));
        part("foot, own", 18, 5, x.mean(0, 0, true, false), x.mean(0, 0, true, true));
        part("pigs", 0, 1, x.mean(0, 2, false, false), x.mean(0, 2, false, true));
        part("pigs, own", 82, 5, x.mean(0, 2, true, false), x.mean(0, 2, true, true));
        part("open, own", 22_197, 2500, x.mean(3, 3, true, false), x.mean(3, 3, true, true));
        part("horse", 7803, 2000, x.mean(3, 1, false, false), x.mean(3, 1, false, true));
        x.hammer(2);
        part("dead", 0, 1, x.mean(2, 1, false, false), x.mean(2, 1, false, true));
        part("dead, own", 0, 1, x.mean(2, 2, true, false), x.mean(2, 2, true, true));
    }

    private static void worth() {
        ElephantLine x = Check.told(WAR);
        worth(x, 0, 0, 102, 25);
        worth(x, 0, 1, 6, 1);
        worth(x, 0, 2, -82, 5);
        worth(x, 0, 3, -18, 5);
        worth(x, 3, 3, -22_197, 2500);
        x.wound(0, 20);
        worth(x, 0, 3, 0, 1);
        worth(x, 0, 1, 48, 5);
        x.hammer(0);
        worth(x, 0, 1, 0, 1);
    }

    private static void bestLane() {
        ElephantLine x = Check.told(WAR);
        Check.due("horse are best", 1, x.bestLane(0), 0, x);
        x.teach(1, 30);
        Check.due("then foot", 0, x.bestLane(0));
        Check.due("pigs for the drunk", 2, Check.told("field lanes 3 deep 1;lane 2 pigs;beast d drunk in 0 mood 9 price 1").bestLane(0));
        Check.due("the first of like ones", 1,
            Check.told("field lanes 4 deep 1;lane 0 pigs;lane 3 horse 25;beast e plain in 0 mood 9 price 1").bestLane(0));
        x.hammer(0);
        Check.due("of a dead one the first", 0, x.bestLane(0));
    }

    private static void all() {
        ElephantLine x = Check.told(WAR);
        part("all", 2421, 200, x.all(false, false), x.all(false, true));
        part("all, own", 261_213, 10_000, x.all(true, false), x.all(true, true));
        x.hammer(0);
        x.hammer(1);
        x.hammer(2);
        part("one left", 0, 1, x.all(false, false), x.all(false, true));
        part("one left, own", 22_197, 2500, x.all(true, false), x.all(true, true));
        x.hammer(3);
        part("none left, own", 0, 1, x.all(true, false), x.all(true, true));
    }

    private static void worst() {
        ElephantLine x = Check.told(WAR);
        Check.due("the drunk one", 2, x.worst(), 0, x);
        x.hammer(2);
        Check.due("then the mailed one", 3, x.worst());
        x.hammer(3);
        Check.due("then the plain one", 0, x.worst());
        x.hammer(0);
        x.wound(1, 5);
        Check.due("none does any", -2, x.worst(), 0, x);
        x = Check.told("field lanes 2 deep 1;beast a plain in 0 mood 100 price 1;beast b plain in 0 mood 9 price 1;beast c plain in 1 mood 9 price 1");
        Check.due("the first such", 1, x.worst());
    }

    private static void worthIf() {
        ElephantLine x = Check.told("field lanes 2 deep 1;beast m mailed in 1 mood 51 price 9;beast e plain in 0 mood 51 price 9");
        part("if it rains", -9, 1, x.worthIf(0, 0, true, false), x.worthIf(0, 0, true, true));
        part("if not", -147, 25, x.worthIf(0, 0, false, false), x.worthIf(0, 0, false, true));
        part("a plain one", -49, 10, x.worthIf(1, 0, true, false), x.worthIf(1, 0, true, true));
        Check.due("it doesn't rain by it", 0, x.size(7));
        x.rain(true);
        part("if not, in rain", -147, 25, x.worthIf(0, 0, false, false), x.worthIf(0, 0, false, true));
        Check.due("worth in rain", -9, x.worth(0, 0, false));
        x.hammer(0);
        part("dead", 0, 1, x.worthIf(0, 0, true, false), x.worthIf(0, 0, true, true));
    }

    private static void moodFor() {
        ElephantLine x = Check.told(WAR);
        Check.due("foot", 68, x.moodFor(0, 0), 0, x);
        Check.due("horse", 64, x.moodFor(0, 1));
        Check.due("pigs", -2, x.moodFor(0, 2), 0, x);
        Check.due("open", -2, x.moodFor(0, 3));
        Check.due("a calf's", 55, x.moodFor(1, 1));
        Check.due("mood stays", 80, x.beast(0, 2));
        x.rain(true);
        Check.due("a mailed one in rain", -2, x.moodFor(3, 1));
        x.wound(0, 30);
        Check.due("even of mood 1", 1, x.moodFor(0, 1));
        x.wound(2, 30);
        Check.due("a drunk one even of mood 0", 0, x.moodFor(2, 2));
        x.hammer(0);
        Check.due("dead", -2, x.moodFor(0, 1), 0, x);
    }

    private static void toHammer() {
        ElephantLine x = Check.told(WAR);
        Check.due("the drunk one", 2, x.toHammer(), 0, x);
        x.hammer(2);
        Check.due("then the mailed one", 3, x.toHammer());
        x.hammer(3);
        Check.due("none makes it more", -2, x.toHammer(), 0, x);
        x = Check.told("field lanes 2 deep 1;beast a plain in 0 mood 100 price 1;beast b plain in 0 mood 9 price 1;beast c plain in 1 mood 9 price 1");
        Check.due("the first such", 1, x.toHammer());
        x.hammer(1);
        x.hammer(2);
        Check.due("worth 0 makes it no more", -2, x.toHammer());
    }

    private static void places(String name, ElephantLine x, int out, int... lanes) {
        for (int b = 0; b < lanes.length; b++) {
            Check.due(name + ": place " + b, lanes[b], x.place(b), 0, x);
        }
        Check.due(name + ": out", out, x.out(), 0, x);
    }

    private static void placing() {
        ElephantLine x = Check.told(WAR);
        places("war", x, 3, 1, -2, -2, -2);
        part("war", 6, 1, x.placed(false), x.placed(true));
        x.hammer(0);
        places("one dead", x, 2, -2, 1, -2, -2);
        part("the calf alone", 18, 25, x.placed(false), x.placed(true));
        x.hammer(1);
        places("two dead", x, 2, -2, -2, -2, -2);
        part("all out", 0, 1, x.placed(false), x.placed(true));
        // All get across; one lane of horse for whoever is the first by lanes.
        x = Check.told("field lanes 3 deep 1;lane 2 horse 0;beast a plain in 0 mood 100 price 1;beast b plain in 0 mood 100 price 1"
            + ";beast c plain in 0 mood 100 price 1;beast d plain in 0 mood 100 price 1");
        places("of like ones the first", x, 1, 0, 1, 2, -2);
        part("fifteen", 15, 1, x.placed(false), x.placed(true));
        x.hammer(0);
        places("the first dead", x, 0, -2, 0, 1, 2);
        // The greatest one alone isn't the greatest sum.
        x = Check.told("field lanes 2 deep 1;lane 0 horse 10;lane 1 foot 12;beast a drunk in 0 mood 100 price 1;beast b plain in 0 mood 100 price 1");
        places("together", x, 0, 0, 1);
        part("together", 32, 1, x.placed(false), x.placed(true));
        x.wound(1, 10);
        places("less strong than foot", x, 1, 0, -2);
        part("less strong than foot", 20, 1, x.placed(false), x.placed(true));
        x = Check.told("field lanes 6 deep 5;lane 5 foot 1;beast a plain in 0 mood 50 price 1");
        places("out is behind all", x, 1, -2);
    }

    private static void toOpen() {
        ElephantLine x = Check.told(WAR);
        Check.due("the foot's lane", 0, x.toOpen(), 0, x);
        x.move(0, 1);
        Check.due("the horse's lane", 1, x.toOpen());
        x.hammer(0);
        Check.due("the calf is there yet", 1, x.toOpen());
        x.hammer(1);
        Check.due("the drunk one among pigs", 2, x.toOpen());
        x.hammer(2);
        Check.due("none makes it less", -2, x.toOpen(), 0, x);
        x = Check.told("field lanes 2 deep 1;lane 0 pigs;lane 1 horse 20;beast a plain in 0 mood 50 price 1;beast b plain in 1 mood 50 price 1");
        Check.due("more, or alike, isn't less", -2, x.toOpen());
        x = Check.told("field lanes 3 deep 1;lane 1 foot 9;lane 2 foot 9;beast a plain in 1 mood 50 price 1;beast b plain in 2 mood 50 price 1");
        Check.due("the first such", 1, x.toOpen());
    }

    private static void rests() {
        ElephantLine x = Check.told(WAR);
        Check.due("no rest", 0, x.rests(0), 0, x);
        Check.due("no first rest", -2, x.rest(0), 0, x);
        // Lane 1 is worth more than an open one, lane 0 as much, lane 2 less.
        x = Check.told("field lanes 3 deep 1;lane 1 horse 3;lane 2 pigs;beast a plain in 0 mood 50 price 1");
        Check.due("lane 1 opened", 2, x.rests(0), 0, x);
        Check.due("first with it", 1, x.rest(0));
        x = Check.told("field lanes 3 deep 1;lane 0 pigs;lane 1 pigs;lane 2 pigs;beast a plain in 0 mood 50 price 1");
        Check.due("pigs everywhere", 0, x.rests(0));
        x = Check.told("field lanes 2 deep 1;beast a plain in 0 mood 50 price 1");
        Check.due("open everywhere", 4, x.rests(0));
        Check.due("open everywhere, first", 0, x.rest(0));
        x = Check.told("field lanes 6 deep 1;lane 0 pigs;lane 1 pigs;lane 2 pigs;lane 3 pigs;lane 4 pigs;beast a plain in 0 mood 50 price 1");
        Check.due("the last lane, whatever is opened", 6, x.rests(0));
        Check.due("the last lane, the first opened", 50, x.rest(0));
        x.hammer(0);
        Check.due("of a dead one all", 36, x.rests(0));
        Check.due("of a dead one the first", 0, x.rest(0));
    }

    private static void weeks() {
        ElephantLine x = Check.told(WAR);
        Check.due("weeks", 15, x.weeks(1), 0, x);
        x.hammer(0);
        Check.due("for the calf eight are enough", 8, x.weeks(1), 0, x);
        x.hammer(1);
        Check.due("the others gain nothing there", 0, x.weeks(1), 0, x);
        x = Check.told("field lanes 2 deep 1;lane 0 horse 9;beast d drunk in 1 mood 80 price 1");
        Check.due("a drunk one that always holds", 30, x.weeks(0));
        x.wound(0, 23);
        Check.due("of force 7 eight are enough", 8, x.weeks(0));
        x.hammer(0);
        Check.due("all dead", 0, x.weeks(0), 0, x);
    }

    /** The smallest that two sums of worth can differ by still counts. */
    private static void leastParts() {
        ElephantLine x = Check.told("field lanes 2 deep 5;lane 1 horse 19;beast a plain in 0 mood 99 price 1"
            + ";beast b plain in 0 mood 1 price 1;beast c plain in 0 mood 100 price 1");
        x.wound(0, 18);
        x.hammer(1);
        part("a harm to its own side", 490_099_501, 10_000_000_000L, x.all(true, false), x.all(true, true));
        Check.due("it is the worst", 0, x.worst());
        Check.due("it is to be hammered", 0, x.toHammer());
        x = Check.told("field lanes 2 deep 5;lane 1 horse 19;beast a plain in 1 mood 1 price 1");
        part("a harm to the foe", 1, 10_000_000_000L, x.all(false, false), x.all(false, true));
        Check.due("it is to be opened", 1, x.toOpen());
        Check.due("it is the best", 1, x.bestLane(0));
        x = Check.told("field lanes 2 deep 1;beast a plain in 0 mood 99 price 1");
        x.wound(0, 18);
        part("one in a hundred", 1, 100, x.all(true, false), x.all(true, true));
        Check.due("one in a hundred is the worst", 0, x.worst());
        Check.due("one in a hundred is to be hammered", 0, x.toHammer());
        Check.due("one in a hundred is better out", 1, x.out());
    }
}
