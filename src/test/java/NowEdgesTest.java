import java.util.List;

/** Terms II, promises 6 to 24: each sentence that names an edge, by a test of its own. */
public final class NowEdgesTest {
    private static final int TERMS = Edges.TERMS;
    private static final String[] KINDS = {"plain", "calf", "drunk", "mailed"};

    public static void main(String[] args) {
        force();
        hold();
        across();
        turns();
        meets();
        dead();
        laneAndBeast();
        likelihoods();
        worths();
        sums();
        placing();
        game();
        weeks();
        looks();
        Edges.haveAll(6, 24);
        Check.end("NowEdgesTest");
    }

    /** One beast in lane 0 of two lanes; who stands in lane 1. */
    private static ElephantLine one(String kind, int mood, int deep, String who) {
        return Check.told("field lanes 2 deep " + deep + ";lane 1 " + who + ";beast a " + kind + " in 0 mood " + mood + " price 1");
    }

    private static void wound(ElephantLine x, int b, int much) {
        for (int left = much; left > 0; left -= 30) {
            x.wound(b, Math.min(30, left));
        }
    }

    private static void force() {
        Edges.sentence(TERMS, "FORCE of a beast: 20, of a calf 5, of a drunk one 30, of a mailed one 25", () -> {
            int[] want = {20, 5, 30, 25};
            for (int k = 0; k < 4; k++) {
                Check.due(KINDS[k], want[k], one(KINDS[k], 50, 1, "open").beast(0, 4));
            }
        });
        Edges.sentence(TERMS, "less its WOUNDS, 0 at least", () -> {
            ElephantLine x = one("calf", 50, 1, "open");
            int[] want = {4, 3, 2, 1, 0, 0, 0};
            for (int force : want) {
                Check.due("one more wound", force, x.wound(0, 1));
            }
            x.wound(0, 30);
            Check.due("far below", 0, x.beast(0, 4));
            Check.due("not dead by them", 0, x.beast(0, 7));
        });
        Edges.sentence(TERMS, "a dead one has 0", () -> {
            for (String kind : KINDS) {
                ElephantLine x = one(kind, 50, 1, "open");
                x.wound(0, 1);
                x.hammer(0);
                Check.due(kind, 0, x.beast(0, 4));
            }
        });
    }

    private static void held(String kind, boolean rain, int... moodsAndHolds) {
        for (int i = 0; i < moodsAndHolds.length; i += 2) {
            ElephantLine x = one(kind, moodsAndHolds[i], 1, "open");
            if (rain) {
                x.rain(true);
            }
            Check.due(kind + " of mood " + moodsAndHolds[i], moodsAndHolds[i + 1], x.beast(0, 5));
        }
    }

    private static void hold() {
        Edges.sentence(TERMS, "HOLD, in a hundred: its mood", () -> {
            held("plain", false, 0, 0, 1, 1, 99, 99, 100, 100);
            held("mailed", false, 0, 0, 1, 1, 99, 99, 100, 100);
        });
        Edges.sentence(TERMS, "of a calf 20 less (0 at least)", () -> held("calf", false, 0, 0, 19, 0, 20, 0, 21, 1, 100, 80));
        Edges.sentence(TERMS, "of a drunk one 20 more (100 at most)", () -> held("drunk", false, 0, 20, 79, 99, 80, 100, 81, 100, 100, 100));
        Edges.sentence(TERMS, "of a mailed one in RAIN half (downwards)", () -> {
            held("mailed", true, 0, 0, 1, 0, 2, 1, 3, 1, 99, 49, 100, 50);
            held("plain", true, 99, 99);
            held("calf", true, 99, 79);
            held("drunk", true, 79, 99);
        });
    }

    private static void gets(String what, ElephantLine x, long up, long low) {
        Edges.part(what, up, low, x.across(0, false), x.across(0, true));
    }

    private static void across() {
        Edges.sentence(TERMS, "each step of the field it holds by HOLD, or turns: it gets across if it holds at all", () -> {
            gets("one step", one("plain", 70, 1, "open"), 7, 10);
            gets("two steps", one("plain", 70, 2, "open"), 49, 100);
            gets("five steps", one("plain", 99, 5, "open"), 9_509_900_499L, 10_000_000_000L);
            gets("never", one("plain", 0, 5, "open"), 0, 1);
            gets("always", one("plain", 100, 5, "open"), 1, 1);
            gets("a calf never", one("calf", 20, 1, "open"), 0, 1);
            gets("a drunk one always", one("drunk", 80, 5, "open"), 1, 1);
        });
    }

    private static void turns() {
        Edges.sentence(TERMS, "If it turns on the way, its own side's HARM is half its FORCE (downwards)", () -> {
            int[] want = {10, 2, 15, 12};
            for (int k = 0; k < 4; k++) {
                // Of mood 0 a drunk one still holds by 20 in a hundred: four of five turn.
                ElephantLine x = one(KINDS[k], 0, 1, "open");
                Edges.part(KINDS[k], k == 2 ? 12 : want[k], 1, x.mean(0, 0, true, false), x.mean(0, 0, true, true));
                Check.due(KINDS[k] + " in a battle that it turns in", want[k], x.battles(75, 1, true));
            }
            ElephantLine x = one("calf", 0, 1, "open");
            x.wound(0, 4);
            Edges.part("half of 1", 0, 1, x.mean(0, 0, true, false), x.mean(0, 0, true, true));
        });
    }

    private static void met(String kind, int wounds, String who, int foe, int own) {
        ElephantLine x = one(kind, 50, 1, who);
        wound(x, 0, wounds);
        String name = kind + " less " + wounds + " meets " + who;
        Check.due(name, foe, x.meets(0, 1, false), 0, x);
        Check.due(name + ", own", own, x.meets(0, 1, true), 0, x);
    }

    private static void meets() {
        Edges.sentence(TERMS, "open: nothing", () -> {
            for (String kind : KINDS) {
                met(kind, 0, "open", 0, 0);
            }
        });
        Edges.sentence(TERMS, "Foot: if its FORCE is above theirs, the foe's HARM is what they are strong", () -> {
            met("plain", 0, "foot 19", 19, 0);
            met("plain", 19, "foot 0", 0, 0);
            met("calf", 0, "foot 4", 4, 0);
            met("drunk", 0, "foot 29", 29, 0);
            met("mailed", 0, "foot 24", 24, 0);
        });
        Edges.sentence(TERMS, "else the foe's HARM is half its FORCE (downwards) and its own side's HARM its FORCE", () -> {
            met("plain", 0, "foot 20", 10, 20);
            met("plain", 20, "foot 0", 0, 0);
            met("calf", 0, "foot 5", 2, 5);
            met("drunk", 0, "foot 60", 15, 30);
            met("mailed", 0, "foot 25", 12, 25);
            met("mailed", 24, "foot 1", 0, 1);
        });
        Edges.sentence(TERMS, "Horse taught less than 8 weeks: the foe's HARM is 15", () -> {
            met("plain", 0, "horse 0", 15, 0);
            met("calf", 5, "horse 7", 15, 0);
            met("drunk", 0, "horse 7", 15, 0);
            met("drunk", 0, "horse 8", 22, 0);
        });
        Edges.sentence(TERMS, "else what its FORCE is above their weeks (0 at least)", () -> {
            met("plain", 0, "horse 8", 12, 0);
            met("plain", 0, "horse 19", 1, 0);
            met("plain", 0, "horse 20", 0, 0);
            met("plain", 0, "horse 30", 0, 0);
            met("calf", 0, "horse 8", 0, 0);
            met("drunk", 0, "horse 29", 1, 0);
        });
        Edges.sentence(TERMS, "Pigs: of a drunk one the foe's HARM is 10; of others its own side's HARM is its FORCE", () -> {
            met("drunk", 0, "pigs", 10, 0);
            met("drunk", 30, "pigs", 10, 0);
            met("plain", 0, "pigs", 0, 20);
            met("calf", 4, "pigs", 0, 1);
            met("calf", 5, "pigs", 0, 0);
            met("mailed", 0, "pigs", 0, 25);
        });
    }

    private static void dead() {
        Edges.sentence(TERMS, "A dead one does nothing", () -> {
            for (String who : new String[] {"open", "foot 0", "foot 9", "horse 0", "horse 30", "pigs"}) {
                for (String kind : KINDS) {
                    ElephantLine x = one(kind, 60, 2, who);
                    x.move(0, 1);
                    x.hammer(0);
                    String name = "dead " + kind + " among " + who;
                    Check.due(name, 0, x.meets(0, 1, false), 0, x);
                    Check.due(name + ", own", 0, x.meets(0, 1, true), 0, x);
                    Edges.part(name + ": across", 0, 1, x.across(0, false), x.across(0, true));
                    Edges.part(name + ": mean", 0, 1, x.mean(0, 1, false, false), x.mean(0, 1, false, true));
                    Edges.part(name + ": own mean", 0, 1, x.mean(0, 1, true, false), x.mean(0, 1, true, true));
                    Edges.part(name + ": worth", 0, 1, x.worth(0, 1, false), x.worth(0, 1, true));
                    Check.due(name + ": battles", 0, x.battles(65_536, 9, false) + x.battles(0, 9, true));
                }
            }
        });
    }

    private static void laneAndBeast() {
        Edges.sentence(6, "0 who is there (0 open, 1 pigs, 2 foot, 3 horse)", () -> {
            ElephantLine x = Check.told(Edges.WAR);
            int[] want = {2, 3, 1, 0};
            for (int l = 0; l < 4; l++) {
                Check.due("lane " + l, want[l], x.lane(l, 0), 0, x);
            }
        });
        Edges.sentence(6, "1 how strong, or weeks, NOW (0 else)", () -> {
            ElephantLine x = Check.told(Edges.WAR);
            int[] want = {12, 3, 0, 0};
            for (int l = 0; l < 4; l++) {
                Check.due("lane " + l, want[l], x.lane(l, 1), 0, x);
            }
            x.battle();
            x.teach(1, 30);
            Check.due("strong now", 0, x.lane(0, 1));
            Check.due("weeks now", 30, x.lane(1, 1));
        });
        Edges.sentence(6, "2 beasts in it not dead, as bits", () -> {
            ElephantLine x = Check.told("field lanes 2 deep 1;beast a plain in 0 mood 1 price 1;beast b plain in 0 mood 1 price 1"
                + ";beast c plain in 0 mood 1 price 1;beast d plain in 0 mood 1 price 1;beast e plain in 0 mood 1 price 1");
            Check.due("all five", 31, x.lane(0, 2));
            Check.due("none", 0, x.lane(1, 2));
            x.move(4, 1);
            x.hammer(0);
            Check.due("not the dead one, not the moved one", 14, x.lane(0, 2));
            Check.due("the moved one", 16, x.lane(1, 2));
        });
        Edges.sentence(6, "NONE: 1", () -> {
            Edges.noSuch("lane", Edges.NO_LANES, -1, (x, l) -> x.lane(l, 0));
            Edges.noSuch("lane 0", new int[] {-1, 3, Integer.MIN_VALUE, Integer.MAX_VALUE}, -1, (x, w) -> x.lane(0, w));
        });
        Edges.sentence(7, "0 KIND (0 plain, 1 calf, 2 drunk, 3 mailed), 1 its lane, 2 mood, 3 price, 4 FORCE, 5 HOLD, 6 WOUNDS, 7 1 if it is dead", () -> {
            for (int k = 0; k < 4; k++) {
                Check.due(KINDS[k], k, one(KINDS[k], 50, 1, "open").beast(0, 0));
            }
            ElephantLine x = Check.told(Edges.WAR);
            x.wound(2, 4);
            x.move(2, 3);
            int[] want = {2, 3, 25, 50, 26, 45, 4, 0};
            for (int what = 0; what < 8; what++) {
                Check.due("beast 2 " + what, want[what], x.beast(2, what), 0, x);
            }
            x.hammer(2);
            Check.due("dead", 1, x.beast(2, 7), 0, x);
            Check.due("its wounds stay", 4, x.beast(2, 6));
            Check.due("its lane stays", 3, x.beast(2, 1));
        });
        Edges.sentence(7, "NONE: 1", () -> {
            Edges.noSuch("beast", Edges.NO_BEASTS, -1, (x, b) -> x.beast(b, 0));
            Edges.noSuch("beast 0", new int[] {-1, 8, Integer.MIN_VALUE, Integer.MAX_VALUE}, -1, (x, w) -> x.beast(0, w));
        });
    }

    private static void likelihoods() {
        Edges.sentence(8, "in lowest terms (0 by 1)", () -> {
            gets("never", one("calf", 0, 5, "open"), 0, 1);
            gets("always", one("plain", 100, 3, "open"), 1, 1);
            gets("half", one("plain", 50, 3, "open"), 1, 8);
            gets("two in common", one("plain", 98, 1, "open"), 49, 50);
            gets("five in common", one("plain", 95, 1, "open"), 19, 20);
            gets("no common part", one("plain", 99, 1, "open"), 99, 100);
            gets("the least", one("plain", 1, 5, "open"), 1, 10_000_000_000L);
        });
        Edges.sentence(8, "-1: 1", () -> {
            Edges.noSuch("across", Edges.NO_BEASTS, -1, (x, b) -> x.across(b, false));
            Edges.noSuch("across, lower", Edges.NO_BEASTS, -1, (x, b) -> x.across(b, true));
        });
        Edges.sentence(9, "The foe's HARM (or, own, its own side's) if it MEETS who is in a lane", () -> {
            ElephantLine x = Check.told(Edges.WAR);
            int[][] foe = {{12, 15, 0, 0}, {2, 15, 0, 0}, {12, 15, 10, 0}};
            int[][] own = {{0, 0, 20, 0}, {5, 0, 5, 0}, {0, 0, 0, 0}};
            for (int b = 0; b < 3; b++) {
                for (int l = 0; l < 4; l++) {
                    Check.due("foe " + b + " " + l, foe[b][l], x.meets(b, l, false), 0, x);
                    Check.due("own " + b + " " + l, own[b][l], x.meets(b, l, true), 0, x);
                }
            }
        });
        Edges.sentence(9, "NONE: 1", () -> {
            Edges.noSuch("meets", Edges.NO_BEASTS, -1, (x, b) -> x.meets(b, 0, true));
            Edges.noSuch("meets 0", Edges.NO_LANES, -1, (x, l) -> x.meets(0, l, false));
        });
        Edges.sentence(10, "MEAN of the foe's HARM (or, own, its own side's) in a lane, likewise", () -> {
            ElephantLine x = Check.told(Edges.WAR);
            Edges.part("foot", 192, 25, x.mean(0, 0, false, false), x.mean(0, 0, false, true));
            Edges.part("foot, own", 18, 5, x.mean(0, 0, true, false), x.mean(0, 0, true, true));
            Edges.part("nothing", 0, 1, x.mean(0, 3, false, false), x.mean(0, 3, false, true));
            x = one("plain", 100, 5, "pigs");
            Edges.part("all of it", 20, 1, x.mean(0, 1, true, false), x.mean(0, 1, true, true));
            Edges.part("it never turns", 0, 1, x.mean(0, 0, true, false), x.mean(0, 0, true, true));
        });
        Edges.sentence(10, "-1: 1", () -> {
            Edges.noSuch("mean", Edges.NO_BEASTS, -1, (x, b) -> x.mean(b, 0, true, false));
            Edges.noSuch("mean 0", Edges.NO_LANES, -1, (x, l) -> x.mean(0, l, false, true));
        });
    }

    private static void worths() {
        Edges.sentence(11, "WORTH in a lane, likewise (the upper one may be below 0)", () -> {
            ElephantLine x = Check.told(Edges.WAR);
            Edges.part("foot", 102, 25, x.worth(0, 0, false), x.worth(0, 0, true));
            Edges.part("pigs", -82, 5, x.worth(0, 2, false), x.worth(0, 2, true));
            x = one("plain", 100, 1, "pigs");
            Edges.part("all against it", -20, 1, x.worth(0, 1, false), x.worth(0, 1, true));
            Edges.part("nothing", 0, 1, x.worth(0, 0, false), x.worth(0, 0, true));
        });
        Edges.sentence(11, "Long.MIN_VALUE: 1", () -> {
            Edges.noSuch("worth", Edges.NO_BEASTS, Edges.LEAST, (x, b) -> x.worth(b, 0, false));
            Edges.noSuch("worth 0", Edges.NO_LANES, Edges.LEAST, (x, l) -> x.worth(0, l, true));
        });
        Edges.sentence(12, "The lane in which its WORTH is greatest, the first such", () -> {
            String pigs = ";lane 0 pigs;lane 1 foot 9;lane 3 foot 9;beast a plain in 0 mood 90 price 1";
            Check.due("the first of two", 1, Check.told("field lanes 6 deep 1" + pigs).bestLane(0));
            Check.due("the last", 1, one("plain", 90, 1, "horse 0").bestLane(0));
            Check.due("all alike", 0, one("plain", 0, 1, "pigs").bestLane(0));
            ElephantLine x = one("plain", 90, 1, "horse 0");
            x.hammer(0);
            Check.due("a dead one's are alike", 0, x.bestLane(0), 0, x);
        });
        Edges.sentence(12, "NONE: 1", () -> Edges.noSuch("bestLane", Edges.NO_BEASTS, -1, (x, b) -> x.bestLane(b)));
        Edges.sentence(15, "WORTH in a lane, if there is RAIN (or not), likewise", () -> {
            ElephantLine x = one("mailed", 51, 1, "foot 24");
            for (int rain = 0; rain < 2; rain++) {
                Edges.part("if so", -3, 1, x.worthIf(0, 1, true, false), x.worthIf(0, 1, true, true));
                Edges.part("if not", 159, 25, x.worthIf(0, 1, false, false), x.worthIf(0, 1, false, true));
                x.rain(true);
            }
            x.hammer(0);
            Edges.part("dead", 0, 1, x.worthIf(0, 1, true, false), x.worthIf(0, 1, true, true));
        });
        Edges.sentence(15, "Long.MIN_VALUE: 1", () -> {
            Edges.noSuch("worthIf", Edges.NO_BEASTS, Edges.LEAST, (x, b) -> x.worthIf(b, 0, true, false));
            Edges.noSuch("worthIf 0", Edges.NO_LANES, Edges.LEAST, (x, l) -> x.worthIf(0, l, false, true));
        });
        moodFor();
    }

    private static void moodFor() {
        Edges.sentence(16, "The least mood (0 .. 100), in place of its own, by which its WORTH in a lane is above 0", () -> {
            ElephantLine x = one("drunk", 50, 1, "pigs");
            wound(x, 0, 29);
            Check.due("even 0", 0, x.moodFor(0, 1), 0, x);
            x = one("calf", 50, 1, "horse 0");
            Check.due("a calf's, above 0 alone", 32, x.moodFor(0, 1));
            x.wound(0, 4);
            Check.due("a calf that holds by 1", 21, x.moodFor(0, 1));
            // Of mood 50 one in lane 1 would be worth nothing: 10 times a half less 10 times a half.
            Check.due("0 isn't above 0", 51, one("plain", 1, 1, "foot 10").moodFor(0, 1));
            // 91 times 1 less 9 times 10: 1 in a hundred.
            Check.due("the least above 0", 91, one("plain", 1, 1, "foot 1").moodFor(0, 1));
            Check.due("100 alone", 100, one("calf", 1, 4, "foot 3").moodFor(0, 1));
            Check.due("its own stays", 1, one("plain", 1, 5, "foot 1").beast(0, 2));
        });
        Edges.sentence(16, "-2 none", () -> {
            ElephantLine x = one("plain", 100, 1, "pigs");
            Check.due("pigs", -2, x.moodFor(0, 1), 0, x);
            Check.due("open", -2, x.moodFor(0, 0), 0, x);
            x = one("mailed", 100, 1, "foot 11");
            x.rain(true);
            Check.due("in rain half of 100 isn't enough", -2, x.moodFor(0, 1), 0, x);
            x = one("plain", 100, 1, "horse 0");
            x.hammer(0);
            Check.due("dead", -2, x.moodFor(0, 1), 0, x);
        });
        Edges.sentence(16, "NONE: 1", () -> {
            Edges.noSuch("moodFor", Edges.NO_BEASTS, -1, (x, b) -> x.moodFor(b, 0));
            Edges.noSuch("moodFor 0", Edges.NO_LANES, -1, (x, l) -> x.moodFor(0, l));
        });
    }

    private static void sums() {
        Edges.sentence(13, "MEAN of the foe's HARM (or, own, its own side's) of all beasts as they are placed NOW, likewise", () -> {
            ElephantLine x = Check.told(Edges.WAR);
            Edges.part("foe", 2421, 200, x.all(false, false), x.all(false, true));
            Edges.part("own", 6897, 400, x.all(true, false), x.all(true, true));
            x.move(0, 3);
            Edges.part("moved", 177, 40, x.all(false, false), x.all(false, true));
            x.hammer(0);
            x.hammer(1);
            x.hammer(2);
            Edges.part("all dead", 0, 1, x.all(false, false), x.all(false, true));
            Edges.part("all dead, own", 0, 1, x.all(true, false), x.all(true, true));
        });
        Edges.sentence(13, "-1: 1 (no WAR)", () -> {
            Edges.noWar("all", -1, x -> x.all(false, false));
            Edges.noWar("all, own", -1, x -> x.all(true, true));
        });
        String three = "field lanes 2 deep 1;beast a plain in 0 mood 100 price 1;beast b plain in 0 mood 9 price 1;beast c plain in 1 mood 9 price 1";
        Edges.sentence(14, "The beast that does its own side most HARM on the mean as it is placed NOW, the first such", () -> {
            ElephantLine x = Check.told(three);
            Check.due("the first of two", 1, x.worst(), 0, x);
            x.wound(2, 2);
            Check.due("the first has more", 1, x.worst());
            x.wound(1, 4);
            Check.due("the other has more", 2, x.worst());
            x.move(0, 1);
            Check.due("none by a lane that is open", 2, x.worst());
        });
        Edges.sentence(14, "-2 none does any", () -> {
            ElephantLine x = one("plain", 100, 5, "pigs");
            Check.due("it always gets across to nobody", -2, x.worst(), 0, x);
            x.move(0, 1);
            Check.due("to pigs", 0, x.worst(), 0, x);
            x.hammer(0);
            Check.due("dead", -2, x.worst(), 0, x);
            x = one("plain", 99, 1, "open");
            x.wound(0, 19);
            Check.due("half of 1 is none", -2, x.worst());
            x.undo();
            x.wound(0, 18);
            Check.due("one in a hundred is some", 0, x.worst());
        });
        Edges.sentence(14, "NONE: 1 (no WAR)", () -> Edges.noWar("worst", -1, x -> x.worst()));
        Edges.sentence(17, "The beast which, dead, makes the sum of WORTH of all as they are placed NOW greatest, the first such", () -> {
            ElephantLine x = Check.told(three);
            Check.due("the first of two", 1, x.toHammer(), 0, x);
            x.wound(2, 2);
            Check.due("the first has less", 1, x.toHammer());
            x.wound(1, 4);
            Check.due("the other has less", 2, x.toHammer());
        });
        Edges.sentence(17, "-2 none makes it more", () -> {
            ElephantLine x = one("plain", 100, 1, "pigs");
            Check.due("of worth 0", -2, x.toHammer(), 0, x);
            x.move(0, 1);
            Check.due("of worth below 0", 0, x.toHammer(), 0, x);
            x.hammer(0);
            Check.due("dead already", -2, x.toHammer(), 0, x);
            x = one("plain", 99, 1, "open");
            x.wound(0, 18);
            Check.due("by one in a hundred", 0, x.toHammer(), 0, x);
        });
        Edges.sentence(17, "NONE: 1 (no WAR)", () -> Edges.noWar("toHammer", -1, x -> x.toHammer()));
    }

    private static void places(String name, ElephantLine x, int... lanes) {
        for (int b = 0; b < lanes.length; b++) {
            Check.due(name + ": place " + b, lanes[b], x.place(b), 0, x);
        }
    }

    private static void placing() {
        String four = "field lanes 3 deep 1;lane 2 horse 0;beast a plain in 0 mood 100 price 1;beast b plain in 0 mood 100 price 1"
            + ";beast c plain in 0 mood 100 price 1;beast d plain in 0 mood 100 price 1";
        Edges.sentence(TERMS, "PLACING: beasts not dead in unlike lanes, or out of the field (they do nothing)", () -> {
            ElephantLine x = Check.told("field lanes 2 deep 1;lane 0 horse 0;lane 1 pigs;beast a plain in 0 mood 100 price 1;beast b drunk in 0 mood 90 price 1");
            places("horse for one, pigs for the drunk one", x, 0, 1);
            x.hammer(0);
            places("dead", x, -2, 0);
            x = Check.told("field lanes 2 deep 1;lane 0 pigs;lane 1 pigs;beast a plain in 0 mood 100 price 1");
            places("out", x, -2);
            Edges.part("out does nothing", 0, 1, x.placed(false), x.placed(true));
        });
        Edges.sentence(TERMS, "that by which the sum of WORTH is greatest", () -> {
            ElephantLine x = Check.told("field lanes 2 deep 1;lane 0 foot 29;lane 1 foot 19;beast a drunk in 0 mood 90 price 1;beast b plain in 0 mood 100 price 1");
            places("each where it can", x, 0, 1);
            Edges.part("sum", 48, 1, x.placed(false), x.placed(true));
            x = Check.told("field lanes 2 deep 1;lane 0 horse 0;lane 1 foot 14;beast a plain in 0 mood 100 price 1;beast b calf in 0 mood 100 price 1");
            places("not the greatest one alone", x, 1, 0);
            x = Check.told("field lanes 2 deep 1;lane 0 horse 0;lane 1 horse 0;beast a plain in 0 mood 100 price 1;beast b plain in 0 mood 100 price 1");
            places("two", x, 0, 1);
            Check.tell(x, "field lanes 2 deep 1;lane 1 foot 9;beast a plain in 0 mood 100 price 1");
            places("nothing is left of the WAR ahead", x, 1);
            Edges.part("its sum", 9, 1, x.placed(false), x.placed(true));
        });
        Edges.sentence(TERMS, "PLACING: beasts not dead in unlike lanes", () -> {
            StringBuilder six = new StringBuilder("field lanes 6 deep 1;lane 0 pigs");
            for (int i = 1; i < 6; i++) {
                six.append(";lane ").append(i).append(" foot ").append(3 * i).append(";beast ").append((char) ('o' + i));
                six.append(" plain in 0 mood ").append(95 + i).append(" price 1");
            }
            ElephantLine x = Check.told(six.toString());
            // The better a beast holds, the stronger the foot for it.
            places("five in six lanes", x, 1, 2, 3, 4, 5);
            Edges.part("their sum", 217, 5, x.placed(false), x.placed(true));
            Check.due("none is out", 0, x.out(), 0, x);
        });
        Edges.sentence(TERMS, "of like ones the first by beasts' lanes (out behind all)", () -> {
            ElephantLine x = Check.told(four);
            places("like beasts", x, 0, 1, 2, -2);
            x.hammer(1);
            places("one less", x, 0, -2, 1, 2);
            places("in an open lane of worth 0, not out", one("plain", 100, 1, "pigs"), 0);
            places("out by less than 0 anywhere", Check.told("field lanes 2 deep 1;lane 0 pigs;lane 1 pigs;beast a plain in 0 mood 0 price 1"), -2);
        });
        Edges.sentence(18, "-2 out (or dead)", () -> {
            ElephantLine x = Check.told(four);
            Check.due("out", -2, x.place(3), 0, x);
            x.hammer(0);
            Check.due("dead", -2, x.place(0), 0, x);
            Check.due("in again", 2, x.place(3), 0, x);
        });
        Edges.sentence(18, "NONE: 1", () -> Edges.noSuch("place", Edges.NO_BEASTS, -1, (x, b) -> x.place(b)));
        Edges.sentence(19, "The sum of WORTH by it, likewise", () -> {
            ElephantLine x = Check.told(four);
            Edges.part("fifteen", 15, 1, x.placed(false), x.placed(true));
            x = one("plain", 99, 2, "horse 0");
            Edges.part("lowest terms", 5801, 400, x.placed(false), x.placed(true));
            x.hammer(0);
            Edges.part("all dead", 0, 1, x.placed(false), x.placed(true));
        });
        Edges.sentence(19, "Long.MIN_VALUE: 1 (no WAR)", () -> {
            Edges.noWar("placed", Edges.LEAST, x -> x.placed(false));
            Edges.noWar("placed, lower", Edges.LEAST, x -> x.placed(true));
        });
        Edges.sentence(20, "How many not dead are out by it", () -> {
            ElephantLine x = Check.told(four);
            Check.due("one too many", 1, x.out(), 0, x);
            x.hammer(0);
            Check.due("dead ones aren't out", 0, x.out(), 0, x);
            x = Check.told("field lanes 2 deep 1;beast a plain in 0 mood 1 price 1;beast b plain in 0 mood 1 price 1"
                + ";beast c plain in 0 mood 1 price 1;beast d plain in 0 mood 1 price 1;beast e plain in 0 mood 1 price 1");
            Check.due("all five", 5, x.out());
        });
        Edges.sentence(20, "NONE: 1 (no WAR)", () -> Edges.noWar("out", -1, x -> x.out()));
    }

    private static void game() {
        Edges.sentence(21, "The lane by which, open, the sum of WORTH of all as they are placed NOW is least, the first such", () -> {
            ElephantLine x = Check.told("field lanes 6 deep 1;lane 3 foot 9;lane 5 foot 9;beast a plain in 5 mood 50 price 1;beast b plain in 3 mood 50 price 1");
            Check.due("the first of two", 3, x.toOpen(), 0, x);
            x.move(1, 5);
            Check.due("the last, by two", 5, x.toOpen(), 0, x);
            x = Check.told("field lanes 2 deep 1;lane 0 foot 9;lane 1 foot 15;beast a plain in 0 mood 50 price 1"
                + ";beast b plain in 0 mood 50 price 1;beast c plain in 1 mood 50 price 1");
            Check.due("9 and 9 are more than 15", 0, x.toOpen(), 0, x);
            x.hammer(0);
            Check.due("9 isn't", 1, x.toOpen(), 0, x);
        });
        Edges.sentence(21, "-2 none makes it less", () -> {
            ElephantLine x = Check.told("field lanes 3 deep 1;lane 0 pigs;lane 1 horse 20;beast a plain in 0 mood 50 price 1;beast b plain in 1 mood 50 price 1");
            Check.due("more, or as much", -2, x.toOpen(), 0, x);
            x.move(0, 2);
            Check.due("open already", -2, x.toOpen(), 0, x);
            x = one("plain", 100, 1, "horse 0");
            Check.due("nobody is there", -2, x.toOpen(), 0, x);
            x.move(0, 1);
            Check.due("it is there", 1, x.toOpen(), 0, x);
            ElephantLine least = one("plain", 1, 1, "foot 1");
            least.move(0, 1);
            Check.due("less by one in a hundred", 1, least.toOpen(), 0, least);
            x.hammer(0);
            Check.due("dead", -2, x.toOpen(), 0, x);
        });
        Edges.sentence(21, "NONE: 1 (no WAR)", () -> Edges.noWar("toOpen", -1, x -> x.toOpen()));
        Edges.sentence(TERMS, "the king chooses its lane, the foe one lane that is open (the others as NOW)", () -> {
            // Whatever the foe opens, lane 1 (horse) or else lane 0 (open already) is as good as it gets.
            ElephantLine x = Check.told("field lanes 3 deep 1;lane 1 horse 3;lane 2 pigs;beast a plain in 2 mood 50 price 1");
            Check.due("the horse's lane opened", 2, x.rests(0));
            Check.due("where it stands is nothing", 1, x.rest(0));
            Check.due("the lane stays", 3, x.lane(1, 0));
        });
        Edges.sentence(TERMS, "REST: a pair by which neither could have more alone", () -> {
            Check.due("all open", 4, Check.told("field lanes 2 deep 1;beast a plain in 0 mood 50 price 1").rests(0));
            Check.due("two of horse: none", 0, Check.told("field lanes 2 deep 1;lane 0 horse 0;lane 1 horse 0;beast a plain in 0 mood 50 price 1").rests(0));
            Check.due("two of pigs: none", 0, Check.told("field lanes 2 deep 1;lane 0 pigs;lane 1 pigs;beast a plain in 0 mood 50 price 1").rests(0));
        });
        Edges.sentence(22, "how many RESTS", () -> {
            ElephantLine x = Check.told("field lanes 6 deep 1;beast a plain in 0 mood 50 price 1");
            Check.due("all", 36, x.rests(0), 0, x);
            x.hammer(0);
            Check.due("a dead one's, too", 36, x.rests(0), 0, x);
            Check.due("none", 0, Check.told(Edges.WAR).rests(0));
        });
        Edges.sentence(22, "NONE: 1", () -> Edges.noSuch("rests", Edges.NO_BEASTS, -1, (x, b) -> x.rests(b)));
        Edges.sentence(23, "The first, by its lane, then the open one: 10 times and", () -> {
            String pigs = ";lane 0 pigs;lane 1 pigs;lane 2 pigs;lane 3 pigs;lane 4 pigs;beast a plain in 0 mood 50 price 1";
            Check.due("the last lane, the first open", 50, Check.told("field lanes 6 deep 1" + pigs).rest(0));
            Check.due("the first lane, the last open", 5,
                Check.told("field lanes 6 deep 1;lane 5 horse 0;beast a plain in 0 mood 50 price 1").rest(0));
            Check.due("the very first", 0, Check.told("field lanes 6 deep 1;beast a plain in 3 mood 50 price 1").rest(0));
        });
        Edges.sentence(23, "-2.", () -> {
            ElephantLine x = Check.told(Edges.WAR);
            Check.due("no rest", -2, x.rest(0), 0, x);
            x = Check.told("field lanes 6 deep 1;lane 0 pigs;lane 1 pigs;lane 2 pigs;lane 3 pigs;lane 4 pigs;lane 5 pigs;beast a plain in 0 mood 50 price 1");
            Check.due("none in six lanes", -2, x.rest(0), 0, x);
            Check.due("not one", 0, x.rests(0), 0, x);
        });
        Edges.sentence(23, "NONE: 1", () -> Edges.noSuch("rest", Edges.NO_BEASTS, -1, (x, b) -> x.rest(b)));
    }

    private static void weeks() {
        Edges.sentence(TERMS, "the least (0 .. 30) by which no beast's WORTH there, of those not dead, is above 0", () -> {
            Check.due("0", 0, one("plain", 0, 1, "horse 9").weeks(1));
            Check.due("8 end the fifteen", 8, one("calf", 100, 1, "horse 9").weeks(1));
            Check.due("half of what is above ten", 10, one("plain", 50, 1, "horse 9").weeks(1));
            Check.due("what is above 0 alone counts", 20, one("plain", 100, 1, "horse 0").weeks(1));
            // 91 times 1 less 9 times 10: 1 in a hundred, by 19 weeks.
            Check.due("above 0 by one in a hundred", 20, one("plain", 91, 1, "horse 0").weeks(1));
            Check.due("30", 30, one("drunk", 80, 1, "horse 30").weeks(1));
            ElephantLine x = Check.told("field lanes 2 deep 1;lane 1 horse 9;beast a drunk in 0 mood 80 price 1;beast b plain in 0 mood 100 price 1");
            Check.due("by all", 30, x.weeks(1), 0, x);
            x.hammer(0);
            Check.due("not by the dead one", 20, x.weeks(1), 0, x);
            x.hammer(1);
            Check.due("all dead", 0, x.weeks(1), 0, x);
            Check.due("the horse learn nothing by it", 9, x.lane(1, 1));
        });
        Edges.sentence(24, "-2 thirty aren't enough", () -> {
            // No FORCE is above 30, so that thirty are always enough.
            ElephantLine x = one("drunk", 100, 5, "horse 30");
            Check.due("the greatest FORCE", 30, x.weeks(1), 0, x);
        });
        Edges.sentence(24, "NONE: 1", () -> Edges.noSuch("weeks", Edges.NO_LANES, -1, (x, l) -> x.weeks(l)));
        Edges.sentence(24, "5 (there is no horse)", () -> {
            ElephantLine x = Check.told(Edges.WAR);
            for (int l : new int[] {0, 2, 3}) {
                Edges.refused("weeks " + l, x, 5, -1, () -> x.weeks(l));
            }
            Check.due("there is", 15, x.weeks(1), 0, x);
        });
    }

    /** No look is refused for a dead beast, and none changes anything. */
    private static void looks() {
        ElephantLine x = Check.told(Edges.WAR);
        x.hammer(0);
        List<Integer> before = Edges.state(x);
        x.across(0, true);
        Check.due("trouble of across", 0, x.trouble());
        x.meets(0, 0, true);
        Check.due("trouble of meets", 0, x.trouble());
        x.place(0);
        Check.due("trouble of place", 0, x.trouble());
        x.rests(0);
        Check.due("trouble of rests", 0, x.trouble());
        x.moodFor(0, 0);
        x.toOpen();
        x.weeks(1);
        x.worthIf(1, 1, true, false);
        Edges.same("looks change nothing", before, Edges.state(x));
    }
}
