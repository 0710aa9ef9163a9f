import java.util.List;

/** Terms III of battles and acts, Terms IV, promises 37 to 52: each sentence that names an edge, by a test of its own. */
public final class ActEdgesTest {
    private static final int TERMS = Edges.TERMS;
    private static final String SMALL = "field lanes 2 deep 1;lane 1 horse 28;beast a plain in 0 mood 75 price 1";

    public static void main(String[] args) {
        draws();
        foot();
        battles();
        won();
        acrossIn();
        move();
        wound();
        hammer();
        teach();
        rain();
        battle();
        seed();
        undo();
        marks();
        back();
        led();
        size();
        trouble();
        calls();
        Edges.haveAll(37, 52);
        Check.end("ActEdgesTest");
    }

    private static ElephantLine moods(int deep, int... moods) {
        StringBuilder s = new StringBuilder("field lanes 2 deep " + deep);
        for (int b = 0; b < moods.length; b++) {
            s.append(";beast ").append((char) ('p' + b)).append(" plain in 0 mood ").append(moods[b]).append(" price 1");
        }
        return Check.told(s.toString());
    }

    private static void draws() {
        Edges.sentence(TERMS, "SEED becomes (75 times SEED and 74) mod 65,537", () -> {
            ElephantLine x = moods(1, 50);
            int[][] want = {{0, 74}, {74, 5624}, {5624, 28_652}, {65_536, 65_536}, {45_438, 0}, {20_097, 65_535}, {25_340, 1}};
            for (int[] pair : want) {
                x.seed(pair[0]);
                x.battle();
                Check.due("behind " + pair[0], pair[1], x.size(8));
            }
        });
        Edges.sentence(TERMS, "each step a DRAW mod 100 below HOLD holds, till it turns", () -> {
            // Behind SEED 0: 74, 24, 52, 90, 41 of a hundred.
            Check.due("74 isn't below 74", 0, moods(1, 74).acrossIn(0, 0, 1));
            Check.due("74 is below 75", 1, moods(1, 75).acrossIn(0, 0, 1));
            // Behind SEED 45,438 comes 0; behind 21,846 comes 99; behind 1748 comes 100.
            Check.due("0 isn't below 0", 0, moods(1, 0).acrossIn(0, 45_438, 1));
            Check.due("0 is below 1", 1, moods(1, 1).acrossIn(0, 45_438, 1));
            Check.due("99 isn't below 99", 0, moods(1, 99).acrossIn(0, 21_846, 1));
            Check.due("99 is below 100", 1, moods(1, 100).acrossIn(0, 21_846, 1));
            Check.due("100 mod 100 is below 1", 1, moods(1, 1).acrossIn(0, 1748, 1));
            Check.due("three steps", 1, moods(3, 75).acrossIn(0, 0, 1));
            Check.due("the fourth turns it", 0, moods(4, 75).acrossIn(0, 0, 1));
            ElephantLine x = moods(5, 75);
            x.battle();
            Check.due("no draw behind the fourth", 51_790, x.size(8));
            x = moods(5, 74);
            x.battle();
            Check.due("no draw behind the first", 74, x.size(8));
            x = moods(5, 91);
            x.battle();
            Check.due("five draws", 17_641, x.size(8));
        });
        Edges.sentence(TERMS, "beasts by numbers, not dead", () -> {
            ElephantLine x = moods(1, 75, 25);
            Check.due("the first draws 74", 1, x.acrossIn(0, 0, 1));
            Check.due("the second draws 24", 1, x.acrossIn(1, 0, 1));
            x.hammer(0);
            Check.due("a dead one doesn't get across", 0, x.acrossIn(0, 0, 90));
            Check.due("nor draw: 74 for the second", 0, x.acrossIn(1, 0, 1));
            x.hammer(1);
            x.battle();
            Check.due("all dead: SEED stays", 0, x.size(8));
        });
    }

    private static void foot() {
        Edges.sentence(TERMS, "it MEETS those who are left there: foot are less strong at once by the foe's HARM of each (for those behind it)", () -> {
            ElephantLine x = Check.told("field lanes 2 deep 1;lane 0 foot 33;lane 1 foot 7;beast a plain in 0 mood 100 price 1"
                + ";beast b mailed in 0 mood 100 price 1;beast c plain in 0 mood 100 price 1;beast d calf in 1 mood 100 price 1;beast f calf in 1 mood 100 price 1");
            // 33: 10 by the first, 23 by the second, none by the third; 7: 2 by a calf, 2 by the other.
            x.seed(65_536);
            Check.due("own", 20 + 10, x.battles(65_536, 1, true));
            Check.due("foe", 10 + 23 + 2 + 2, x.battle(), 0, x);
            Check.due("none is left", 0, x.lane(0, 1));
            Check.due("three are left", 3, x.lane(1, 1));
            Check.due("then a calf is above them", 3, x.battles(65_536, 1, false));
            x = Check.told("field lanes 2 deep 1;lane 0 horse 8;lane 1 pigs;beast a plain in 0 mood 100 price 1"
                + ";beast b plain in 0 mood 100 price 1;beast d drunk in 1 mood 80 price 1;beast f drunk in 1 mood 80 price 1");
            Check.due("horse and pigs don't lessen", 44, x.battle());
            Check.due("weeks stay", 8, x.lane(0, 1));
            Check.due("pigs have none", 0, x.lane(1, 1));
        });
    }

    private static void battles() {
        Edges.sentence(37, "n BATTLES (1 .. 90) by a SEED (0 .. 65,536)", () -> {
            Edges.within("battles n", 1, 90, -1, (x, n) -> x.battles(0, n, false));
            Edges.within("battles seed", 0, 65_536, -1, (x, s) -> x.battles(s, 1, true));
        });
        Edges.sentence(37, "each from NOW, SEED going on", () -> {
            ElephantLine x = Check.told(Edges.WAR);
            List<Integer> before = Edges.state(x);
            // The first ends by SEED 51,790; foot are 12 again for the second.
            Check.due("two", 24, x.battles(0, 2, false));
            Check.due("one and one", x.battles(0, 1, true) + x.battles(51_790, 1, true), x.battles(0, 2, true));
            Check.due("ninety, foot anew each", 90 * 37, x.battles(65_536, 90, false));
            Edges.same("NOW stays", before, Edges.state(x));
            x.battle();
            Check.due("from NOW: no foot", 90 * 25, x.battles(65_536, 90, false));
        });
        Edges.sentence(37, "the foe's HARM (or, own, the king's) in all", () -> {
            ElephantLine x = Check.told(Edges.WAR);
            Check.due("foe", 12, x.battles(0, 1, false), 0, x);
            Check.due("own", 17, x.battles(0, 1, true), 0, x);
            Check.due("none", 0, x.battles(65_536, 90, true), 0, x);
        });
        Edges.sentence(37, "NONE: 1 (no WAR); 2.", () -> {
            Edges.noWar("battles", -1, x -> x.battles(0, 1, false));
            Edges.noWar("battles, 1 ahead of 2", -1, x -> x.battles(-1, 0, true));
            Edges.within("battles n", 1, 90, -1, (x, n) -> x.battles(0, n, true));
        });
    }

    private static void won() {
        Edges.sentence(38, "In how many of them the foe's HARM is above the king's", () -> {
            ElephantLine x = Check.told(Edges.WAR);
            Check.due("12 isn't above 17", 0, x.won(0, 1), 0, x);
            Check.due("all", 90, x.won(65_536, 90), 0, x);
            Check.due("none again", 0, x.won(0, 1), 0, x);
            Check.due("0 isn't above 0", 0, moods(1, 100).won(0, 90));
            // Two get across: 20 by foot of 20, and 10, then 10 to the foe.
            x = Check.told("field lanes 2 deep 1;lane 0 foot 20;beast a plain in 0 mood 100 price 1;beast b plain in 0 mood 100 price 1");
            Check.due("20 isn't above 20", 0, x.won(5, 9), 0, x);
            x.wound(0, 1);
            Check.due("9 and 11 are above 19", 9, x.won(5, 9), 0, x);
        });
        Edges.sentence(38, "NONE: 1 (no WAR); 2.", () -> {
            Edges.noWar("won", -1, x -> x.won(0, 1));
            Edges.noWar("won, 1 ahead of 2", -1, x -> x.won(65_537, 91));
            Edges.within("won n", 1, 90, -1, (x, n) -> x.won(0, n));
            Edges.within("won seed", 0, 65_536, -1, (x, s) -> x.won(s, 1));
        });
    }

    private static void acrossIn() {
        Edges.sentence(39, "In how many of them a beast gets across", () -> {
            ElephantLine x = moods(1, 100, 0, 37, 36);
            Check.due("always", 90, x.acrossIn(0, 7, 90), 0, x);
            Check.due("never", 0, x.acrossIn(1, 7, 90), 0, x);
            // From SEED 65,536 each DRAW is 36.
            Check.due("36 is below 37", 90, x.acrossIn(2, 65_536, 90), 0, x);
            Check.due("36 isn't below 36", 0, x.acrossIn(3, 65_536, 90), 0, x);
        });
        Edges.sentence(39, "NONE: 1; 2.", () -> {
            Edges.noSuch("acrossIn", Edges.NO_BEASTS, -1, (x, b) -> x.acrossIn(b, 0, 1));
            Edges.noSuch("acrossIn, 1 ahead of 2", Edges.NO_BEASTS, -1, (x, b) -> x.acrossIn(b, -1, 0));
            Edges.within("acrossIn n", 1, 90, -1, (x, n) -> x.acrossIn(0, 0, n));
            Edges.within("acrossIn seed", 0, 65_536, -1, (x, s) -> x.acrossIn(0, s, 1));
        });
    }

    private static void move() {
        Edges.sentence(40, "MOVE: true", () -> {
            ElephantLine x = Check.told(Edges.WAR);
            Check.due("to the last lane", true, x.move(0, 3), 0, x);
            Check.due("it is there", 3, x.beast(0, 1));
            Check.due("to the first", true, x.move(0, 0), 0, x);
            Check.due("to one where another is", true, x.move(0, 1), 0, x);
            Check.due("both are", 3, x.lane(1, 2));
            Check.due("three acts", 3, x.size(9));
        });
        Edges.sentence(40, "false: 1", () -> {
            Edges.noSuch("move", Edges.NO_BEASTS, 0, (x, b) -> Edges.of(x.move(b, 3)));
            Edges.noSuch("move 0", Edges.NO_LANES, 0, (x, l) -> Edges.of(x.move(0, l)));
        });
        Edges.sentence(40, "5 (it is there, dead)", () -> {
            ElephantLine x = Check.told(Edges.WAR);
            Edges.refused("it is there", x, 5, 0, () -> Edges.of(x.move(0, 0)));
            x.hammer(0);
            Edges.refused("dead", x, 5, 0, () -> Edges.of(x.move(0, 1)));
            Edges.refused("dead and there", x, 5, 0, () -> Edges.of(x.move(0, 0)));
            Edges.refused("1 ahead of 5", x, 1, 0, () -> Edges.of(x.move(0, 4)));
        });
    }

    private static void wound() {
        Edges.sentence(41, "WOUND (1 .. 30): FORCE then", () -> {
            ElephantLine x = Check.told(Edges.WAR);
            Check.due("1", 19, x.wound(0, 1), 0, x);
            Check.due("19 more", 0, x.wound(0, 19), 0, x);
            Check.due("30 more", 0, x.wound(0, 30), 0, x);
            Check.due("all of them", 50, x.beast(0, 6));
            Check.due("30 of a drunk one", 0, x.wound(2, 30), 0, x);
            Check.due("four acts", 4, x.size(9));
        });
        Edges.sentence(41, "NONE: 1; 2; 5 (dead)", () -> {
            Edges.noSuch("wound", Edges.NO_BEASTS, -1, (x, b) -> x.wound(b, 1));
            Edges.noSuch("wound, 1 ahead of 2", Edges.NO_BEASTS, -1, (x, b) -> x.wound(b, 0));
            Edges.within("wound", 1, 30, -1, (x, n) -> x.wound(0, n));
            ElephantLine x = Check.told(Edges.WAR);
            x.hammer(0);
            Edges.refused("dead", x, 5, -1, () -> x.wound(0, 1));
            Edges.refused("2 ahead of 5", x, 2, -1, () -> x.wound(0, 31));
        });
    }

    private static void hammer() {
        Edges.sentence(42, "HAMMER: true; false: 1; 5 (dead)", () -> {
            Edges.noSuch("hammer", Edges.NO_BEASTS, 0, (x, b) -> Edges.of(x.hammer(b)));
            ElephantLine x = Check.told(Edges.WAR);
            x.wound(1, 30);
            Check.due("of no FORCE, but not dead", true, x.hammer(1), 0, x);
            Check.due("it is dead", 1, x.beast(1, 7));
            Check.due("two acts", 2, x.size(9));
            Edges.refused("again", x, 5, 0, () -> Edges.of(x.hammer(1)));
            x.undo();
            Check.due("undone, again", true, x.hammer(1), 0, x);
        });
    }

    private static void teach() {
        Edges.sentence(43, "TEACH so many weeks more (1 .. 30; 30 at most in all): weeks then", () -> {
            ElephantLine x = Check.told(SMALL);
            Check.due("1 more", 29, x.teach(1, 1), 0, x);
            Check.due("1 more again", 30, x.teach(1, 1), 0, x);
            Check.due("30 at most", 30, x.teach(1, 1), 0, x);
            Check.due("30 at most by 30", 30, x.teach(1, 30), 0, x);
            Check.due("as acts", 4, x.size(9));
            x = Check.told("field lanes 2 deep 1;lane 1 horse 0;beast a plain in 0 mood 75 price 1");
            Check.due("from 0 by 30", 30, x.teach(1, 30), 0, x);
            Check.due("they are taught", 30, x.lane(1, 1));
        });
        Edges.sentence(43, "NONE: 1; 2; 5 (there is no horse)", () -> {
            Edges.noSuch("teach", Edges.NO_LANES, -1, (x, l) -> x.teach(l, 1));
            Edges.noSuch("teach, 1 ahead of 2", Edges.NO_LANES, -1, (x, l) -> x.teach(l, 0));
            Edges.within("teach", 1, 30, -1, (x, n) -> x.teach(1, n));
            ElephantLine x = Check.told(Edges.WAR);
            for (int l : new int[] {0, 2, 3}) {
                Edges.refused("no horse in " + l, x, 5, -1, () -> x.teach(l, 1));
                Edges.refused("2 ahead of 5 in " + l, x, 2, -1, () -> x.teach(l, 31));
            }
        });
    }

    private static void rain() {
        Edges.sentence(44, "RAIN, or not (not is): true; false: 1 (no WAR); 5 (it is so)", () -> {
            Edges.noWar("rain", 0, x -> Edges.of(x.rain(true)));
            Edges.noWar("no rain", 0, x -> Edges.of(x.rain(false)));
            ElephantLine x = Check.told(Edges.WAR);
            Edges.refused("no rain already", x, 5, 0, () -> Edges.of(x.rain(false)));
            Check.due("rain", true, x.rain(true), 0, x);
            Check.due("it rains", 1, x.size(7));
            Edges.refused("rain already", x, 5, 0, () -> Edges.of(x.rain(true)));
            Check.due("no rain", true, x.rain(false), 0, x);
            Check.due("it doesn't", 0, x.size(7));
            Check.due("two acts", 2, x.size(9));
        });
    }

    private static void battle() {
        Edges.sentence(TERMS, "BATTLE (by SEED; foot stay as they are left)", () -> {
            ElephantLine x = Check.told(Edges.WAR);
            x.battle();
            Check.due("SEED goes on", 51_790, x.size(8));
            Check.due("foot", 0, x.lane(0, 1));
            Check.due("by SEED", 0, x.battle());
        });
        Edges.sentence(45, "BATTLE: the foe's HARM", () -> {
            ElephantLine x = Check.told(Edges.WAR);
            Check.due("12", 12, x.battle(), 0, x);
            Check.due("an act", 1, x.size(9));
            x.hammer(0);
            x.hammer(1);
            x.hammer(2);
            Check.due("all dead", 0, x.battle(), 0, x);
            Check.due("still an act", 5, x.size(9));
        });
        Edges.sentence(45, "NONE: 1 (no WAR)", () -> Edges.noWar("battle", -1, x -> x.battle()));
    }

    private static void seed() {
        Edges.sentence(46, "SEED (no ACT): true; false: 1 (no WAR); 2 (0 .. 65,536)", () -> {
            Edges.noWar("seed", 0, x -> Edges.of(x.seed(0)));
            Edges.noWar("seed, 1 ahead of 2", 0, x -> Edges.of(x.seed(-1)));
            Edges.within("seed", 0, 65_536, 0, (x, v) -> Edges.of(x.seed(v)));
            ElephantLine x = Check.told(Edges.WAR);
            Check.due("the most", true, x.seed(65_536), 0, x);
            Check.due("it is", 65_536, x.size(8));
            Check.due("the least", true, x.seed(0), 0, x);
            Check.due("the same again", true, x.seed(0), 0, x);
            Check.due("no act", 0, x.size(9));
            Check.due("nothing to undo", false, x.undo(), 6, x);
        });
    }

    private static void undo() {
        Edges.sentence(TERMS, "UNDO: all, SEED too, is as ahead of the latest (16 are kept)", () -> {
            ElephantLine x = Check.told(Edges.WAR);
            x.seed(5);
            x.battle();
            x.seed(9);
            x.undo();
            Check.due("SEED ahead of the battle", 5, x.size(8));
            Check.due("foot ahead of it", 12, x.lane(0, 1));
            for (int i = 0; i < 17; i++) {
                x.seed(100 + i);
                x.wound(0, 1);
            }
            Check.due("sixteen are kept", 16, x.size(9));
            for (int i = 16; i >= 1; i--) {
                Check.due("undo", true, x.undo(), 0, x);
                Check.due("wounds", i, x.beast(0, 6));
                Check.due("SEED", 100 + i, x.size(8));
            }
            Check.due("the first isn't kept", false, x.undo(), 6, x);
            Check.due("its wound stays", 1, x.beast(0, 6));
            for (int ahead = 0; ahead < 18; ahead++) {
                sixteenBehind(ahead);
            }
        });
        Edges.sentence(47, "UNDO: true; false: 6", () -> {
            ElephantLine fresh = new ElephantLine();
            Edges.refused("undo without a WAR", fresh, 6, 0, () -> Edges.of(fresh.undo()));
            ElephantLine x = Check.told(Edges.WAR);
            Edges.refused("nothing yet", x, 6, 0, () -> Edges.of(x.undo()));
            List<Integer> first = Edges.state(x);
            x.move(0, 3);
            x.wound(1, 2);
            x.hammer(2);
            x.teach(1, 3);
            x.rain(true);
            x.battle();
            for (int i = 5; i >= 0; i--) {
                Check.due("undo", true, x.undo(), 0, x);
                Check.due("left", i, x.size(9));
            }
            Edges.same("all is as at first", first, Edges.state(x));
            Edges.refused("no more", x, 6, 0, () -> Edges.of(x.undo()));
            x.move(0, 0);
            Check.due("a refused act isn't one", false, x.undo(), 6, x);
        });
    }

    /** However many acts there were, sixteen behind them come back one by one. */
    private static void sixteenBehind(int ahead) {
        ElephantLine x = Check.told(Edges.WAR);
        for (int i = 0; i < ahead + 16; i++) {
            x.wound(0, 1);
        }
        for (int i = 15; i >= 0; i--) {
            x.undo();
            Check.due("wounds, " + ahead + " ahead", ahead + i, x.beast(0, 6));
        }
        x.wound(0, 3);
        x.undo();
        Check.due("wounds once more, " + ahead + " ahead", ahead, x.beast(0, 6));
    }

    private static void marks() {
        Edges.sentence(TERMS, "MARKS: up to 3; gone back to one, nothing can be undone", () -> {
            ElephantLine x = Check.told(Edges.WAR);
            x.wound(0, 1);
            for (int i = 0; i < 3; i++) {
                Check.due("mark " + i, i, x.mark(), 0, x);
            }
            Edges.refused("the fourth", x, 3, -1, () -> x.mark());
            Check.due("a mark leaves what can be undone", 1, x.size(9));
            x.back(2);
            Check.due("nothing can be undone", 0, x.size(9));
            Check.due("undo", false, x.undo(), 6, x);
            Edges.refused("no room behind it, too", x, 3, -1, () -> x.mark());
        });
        Edges.sentence(48, "A MARK: its number", () -> {
            ElephantLine x = Check.told(Edges.WAR);
            for (int i = 0; i < 3; i++) {
                x.wound(0, 1);
                Check.due("mark " + i, i, x.mark(), 0, x);
                Check.due("marks", i + 1, x.size(10));
            }
        });
        Edges.sentence(48, "NONE: 1 (no WAR); 3.", () -> {
            Edges.noWar("mark", -1, x -> x.mark());
            ElephantLine x = Check.told(Edges.WAR);
            x.mark();
            x.mark();
            x.mark();
            Edges.refused("no room", x, 3, -1, () -> x.mark());
        });
    }

    private static void back() {
        Edges.sentence(49, "All is as by a MARK (all MARKS stay): true", () -> {
            ElephantLine x = Check.told(Edges.WAR);
            x.mark();
            List<Integer> first = Edges.state(x).subList(11, 40);
            x.move(0, 3);
            x.wound(1, 2);
            x.hammer(2);
            x.teach(1, 3);
            x.rain(true);
            x.seed(4);
            x.battle();
            x.mark();
            int later = x.size(8);
            List<Integer> second = Edges.state(x).subList(11, 40);
            Check.due("back to the first", true, x.back(0), 0, x);
            Edges.same("as by the first", first, Edges.state(x).subList(11, 40));
            Check.due("SEED", 0, x.size(8));
            Check.due("no rain", 0, x.size(7));
            Check.due("all marks stay", 2, x.size(10));
            x.wound(0, 9);
            Check.due("on to the second", true, x.back(1), 0, x);
            Edges.same("as by the second", second, Edges.state(x).subList(11, 40));
            Check.due("SEED by it", later, x.size(8));
            Check.due("rain by it", 1, x.size(7));
            Check.due("to the first again", true, x.back(0), 0, x);
            Edges.same("as by the first again", first, Edges.state(x).subList(11, 40));
        });
        Edges.sentence(49, "false: 1", () -> {
            Edges.noSuch("back", new int[] {-1, 0, 1, 3, Integer.MIN_VALUE, Integer.MAX_VALUE}, 0, (x, m) -> Edges.of(x.back(m)));
            ElephantLine x = Check.told(Edges.WAR);
            x.wound(0, 1);
            x.mark();
            Edges.refused("behind the last", x, 1, 0, () -> Edges.of(x.back(1)));
            x.mark();
            x.mark();
            Edges.refused("behind the third", x, 1, 0, () -> Edges.of(x.back(3)));
        });
    }

    private static void led() {
        Edges.sentence(50, "The i-th beast, by numbers, that is dead", () -> {
            ElephantLine x = moods(1, 1, 1, 1, 1, 1);
            x.hammer(4);
            x.hammer(1);
            Check.due("the first", 1, x.led(0));
            Check.due("the second", 4, x.led(1));
            x.hammer(0);
            x.hammer(2);
            x.hammer(3);
            for (int i = 0; i < 5; i++) {
                Check.due("all, " + i, i, x.led(i));
            }
        });
        Edges.sentence(50, "NoSuchElementException if there is none such", () -> {
            Check.dueThrow("no WAR", new ElephantLine(), 0);
            ElephantLine x = moods(1, 1, 1);
            Check.dueThrow("none is dead", x, 0);
            x.wound(0, 30);
            Check.dueThrow("none by wounds", x, 0);
            x.hammer(1);
            for (int i : new int[] {-1, 1, Integer.MIN_VALUE, Integer.MAX_VALUE}) {
                Check.dueThrow("led " + i, x, i);
            }
            x.undo();
            Check.dueThrow("undone", x, 0);
        });
    }

    private static void size() {
        Edges.sentence(51, "0 lanes, 1 deep, 2 lanes told, 3 beasts, 4 cities, 5 passes, 6 turned, 7 1 if it RAINS, 8 SEED, 9 ACTS that can be undone, 10 MARKS, 11 bytes of THE TAPE", () -> {
            ElephantLine x = Check.told(Edges.WAR);
            x.rain(true);
            x.seed(77);
            x.mark();
            x.mark();
            x.wound(0, 1);
            x.wound(0, 1);
            x.feed(0, 0, 0, 0, 0);
            int[] want = {4, 2, 3, 3, 3, 3, 1, 1, 77, 3, 2, 20};
            for (int what = 0; what < 12; what++) {
                Check.due("size " + what, want[what], x.size(what));
            }
        });
        Edges.sentence(51, "NONE for others", () -> {
            for (ElephantLine x : new ElephantLine[] {new ElephantLine(), Check.told(Edges.WAR)}) {
                for (int what : new int[] {-1, 12, Integer.MIN_VALUE, Integer.MAX_VALUE}) {
                    Check.due("size " + what, -1, x.size(what));
                }
            }
        });
        Edges.sentence(51, "0 for what there isn't", () -> {
            ElephantLine x = new ElephantLine();
            ElephantLine told = Check.told(SMALL);
            for (int what = 0; what < 12; what++) {
                Check.due("size " + what + " without a WAR", 0, x.size(what));
                Check.due("size " + what + " of what isn't told", what > 3 ? 0 : what == 0 ? 2 : 1, told.size(what));
            }
        });
    }

    private static void trouble() {
        Edges.sentence(TERMS, "0 it wasn't; 1 there is none such; 2 a number; 3 no room; 4 a FAULT; 5 not so; 6 there is none", () -> {
            ElephantLine x = new ElephantLine();
            Check.due("4", -1, x.war(0), 4, x);
            Check.due("2", -1, x.war(1), 2, x);
            Check.due("1", -1, x.fits(), 1, x);
            Check.due("6", false, x.undo(), 6, x);
            Check.due("0", 3, Check.tell(x, Edges.WAR), 0, x);
            Check.due("5", false, x.rain(false), 5, x);
            x.mark();
            x.mark();
            Check.due("0 again", 2, x.mark(), 0, x);
            Check.due("3", -1, x.mark(), 3, x);
            Check.due("-2 isn't refused", -2, x.sale(500), 0, x);
        });
        Edges.sentence(TERMS, "TROUBLE of the latest call that may be refused (those of which a number is told here)", () -> {
            ElephantLine x = Check.told(Edges.WAR);
            x.sale(501);
            x.feed(0, 0, 0, 0, 0);
            x.fault();
            x.where();
            x.size(-1);
            Check.dueThrow("led", x, 0);
            x.hammer(0);
            x.sale(501);
            Check.due("led", 0, x.led(0));
            Check.due("calls without a number leave it", 2, x.trouble());
            for (int i = 0; i < 45; i++) {
                x.feed(0, 0, 0, 0, 0);
            }
            Check.due("a tape that is full leaves it", 2, x.trouble());
            x.turnedBy(0);
            Check.due("the latest", 0, x.trouble());
        });
        Edges.sentence(52, "TROUBLE.", () -> {
            ElephantLine x = new ElephantLine();
            Check.due("new", 0, x.trouble());
            x.lane(0, 0);
            Check.due("refused", 1, x.trouble());
            Check.due("told again", 1, x.trouble());
        });
    }

    private static void calls() {
        Edges.sentence(Edges.ABOUT, "An object is used for at most 512 calls after it has been made", () -> {
            ElephantLine x = Check.told(SMALL);
            for (int i = 0; i < 500; i++) {
                x.wound(0, 30);
            }
            Check.due("wounds", 15_000, x.beast(0, 6));
            Check.due("force", 0, x.beast(0, 4));
            Check.due("kept", 16, x.size(9));
        });
    }
}
