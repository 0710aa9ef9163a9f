/** Promises 37 to 51: battles, acts, undoing, marks, what is told. */
public final class ActTest {
    private static final String WAR = "field lanes 3 deep 2;lane 0 foot 12;lane 1 horse 3;lane 2 pigs"
        + ";beast e plain in 0 mood 80 price 40;beast c calf in 1 mood 60 price 10"
        + ";beast d drunk in 2 mood 25 price 50";

    public static void main(String[] args) {
        battles();
        footAreLess();
        battle();
        move();
        wound();
        hammer();
        teach();
        rain();
        seed();
        undo();
        sixteen();
        marks();
        led();
        size();
        Check.end("ActTest");
    }

    private static void battles() {
        ElephantLine x = Check.told(WAR);
        // Draws 74, 5624: the plain one gets across; 28652 turns the calf; 51790 the drunk one.
        Check.due("foe", 12, x.battles(0, 1, false), 0, x);
        Check.due("own", 17, x.battles(0, 1, true), 0, x);
        Check.due("won", 0, x.won(0, 1), 0, x);
        Check.due("plain across", 1, x.acrossIn(0, 0, 1), 0, x);
        Check.due("calf not", 0, x.acrossIn(1, 0, 1));
        Check.due("drunk not", 0, x.acrossIn(2, 0, 1));
        // The second goes on from 51790: the same as one from there, foot being 12 again.
        Check.due("from 51790", 12, x.battles(51_790, 1, false));
        Check.due("two", 24, x.battles(0, 2, false));
        Check.due("two, own", 17 + x.battles(51_790, 1, true), x.battles(0, 2, true));
        Check.due("two won", x.won(0, 1) + x.won(51_790, 1), x.won(0, 2));
        Check.due("nothing changed", 12, x.lane(0, 1));
        Check.due("no act", 0, x.size(9));
        Check.due("seed stays", 0, x.size(8));
        x.seed(51_790);
        Check.due("their seed isn't SEED", 12, x.battles(0, 1, false));
        x.hammer(0);
        Check.due("a dead one doesn't draw", 0, x.acrossIn(0, 0, 90));
        // Draws 74 and 5624 are the calf's and the drunk one's now: both turn or hold by them.
        Check.due("own without it", 17, x.battles(0, 1, true));
        Check.due("the calf in all of 90", 90, x.acrossIn(1, 65_536, 90));
        Check.due("won all of 90", 90, x.won(65_536, 90));
        Check.due("25 in each of 90", 2250, x.battles(65_536, 90, false));
        Check.due("no harm in 90", 0, x.battles(65_536, 90, true));
    }

    private static void footAreLess() {
        ElephantLine x = Check.told("field lanes 2 deep 1;lane 0 foot 33;lane 1 horse 8;beast a plain in 0 mood 100 price 1;beast b mailed in 0 mood 100 price 1"
            + ";beast c plain in 0 mood 100 price 1;beast d drunk in 0 mood 100 price 1;beast f drunk in 1 mood 100 price 1");
        // 33 less 10, less 23 (25 is above 23), none left for two; and 22 by horse of 8 weeks.
        Check.due("foe", 10 + 23 + 22, x.battles(5, 1, false));
        Check.due("own", 20, x.battles(5, 1, true));
        Check.due("won", 3, x.won(5, 3));
        Check.due("each of them anew", 165, x.battles(5, 3, false));
        Check.due("battle", 55, x.battle(), 0, x);
        Check.due("foot stay as they are left", 0, x.lane(0, 1));
        Check.due("horse stay", 8, x.lane(1, 1));
        Check.due("then", 22, x.battle());
        x.undo();
        x.undo();
        Check.due("foot are back", 33, x.lane(0, 1));
        x.hammer(1);
        Check.due("10, 10, 13", 33 + 22, x.battle());
        x.undo();
        x.hammer(3);
        Check.due("10 and 10", 20 + 22, x.battle());
        Check.due("13 left", 13, x.lane(0, 1));
        Check.due("they are met so", 13, x.meets(0, 0, false));
        Check.due("a tie isn't won", 0, Check.told("field lanes 2 deep 1;beast a plain in 0 mood 100 price 1").won(0, 9));
    }

    private static void battle() {
        ElephantLine x = Check.told(WAR);
        Check.due("by SEED 0", 12, x.battle(), 0, x);
        Check.due("SEED behind it", 51_790, x.size(8));
        Check.due("foot left", 0, x.lane(0, 1));
        Check.due("an act", 1, x.size(9));
        x.seed(0);
        Check.due("no foot left", 0, x.battle());
        Check.due("undo", true, x.undo(), 0, x);
        Check.due("SEED ahead of it", 0, x.size(8));
        x.undo();
        Check.due("SEED ahead of the first", 0, x.size(8));
        Check.due("foot again", 12, x.lane(0, 1));
        // From 65536 each draw is 65536 again, 36 of a hundred: all hold.
        x.seed(65_536);
        Check.due("all hold", 12 + 15 + 10, x.battle());
        Check.due("no foot left for more", 15 + 10, x.battles(65_536, 1, false));
        x = Check.told("field lanes 2 deep 1;beast a plain in 0 mood 0 price 1");
        x.seed(65_536);
        x.battle();
        Check.due("one draw from 65536", 65_536, x.size(8));
    }

    private static void move() {
        ElephantLine x = Check.told(WAR);
        Check.due("move", true, x.move(0, 2), 0, x);
        Check.due("its lane", 2, x.beast(0, 1));
        Check.due("two there", 5, x.lane(2, 2));
        Check.due("it is there", false, x.move(0, 2), 5, x);
        Check.due("one act", 1, x.size(9));
    }

    private static void wound() {
        ElephantLine x = Check.told(WAR);
        Check.due("wound", 15, x.wound(0, 5), 0, x);
        Check.due("more", 1, x.wound(0, 14));
        Check.due("too much", 0, x.wound(0, 30), 0, x);
        Check.due("yet", 0, x.wound(0, 1), 0, x);
        Check.due("all", 50, x.beast(0, 6));
        Check.due("four acts", 4, x.size(9));
        Check.due("another", 30, x.beast(2, 4));
    }

    private static void hammer() {
        ElephantLine x = Check.told(WAR);
        Check.due("hammer", true, x.hammer(1), 0, x);
        Check.due("dead", 1, x.beast(1, 7));
        Check.due("again", false, x.hammer(1), 5, x);
        Check.due("undone", true, x.undo(), 0, x);
        Check.due("lives", 0, x.beast(1, 7));
        Check.due("once more", true, x.hammer(1), 0, x);
    }

    private static void teach() {
        ElephantLine x = Check.told(WAR);
        Check.due("teach", 7, x.teach(1, 4), 0, x);
        Check.due("fifteen yet", 15, x.meets(0, 1, false));
        Check.due("one more", 8, x.teach(1, 1));
        Check.due("twelve", 12, x.meets(0, 1, false));
        Check.due("30 at most", 30, x.teach(1, 30), 0, x);
        Check.due("30 stays", 30, x.teach(1, 1), 0, x);
        Check.due("four acts", 4, x.size(9));
    }

    private static void rain() {
        ElephantLine x = Check.told(WAR);
        Check.due("rain", true, x.rain(true), 0, x);
        Check.due("it rains", 1, x.size(7));
        Check.due("again", false, x.rain(true), 5, x);
        Check.due("it ends", true, x.rain(false), 0, x);
        Check.due("no rain", 0, x.size(7));
        Check.due("two acts", 2, x.size(9));
    }

    private static void seed() {
        ElephantLine x = Check.told(WAR);
        Check.due("seed", true, x.seed(65_536), 0, x);
        Check.due("SEED", 65_536, x.size(8));
        Check.due("no act", false, x.undo(), 6, x);
        Check.due("refused", false, x.seed(65_537), 2, x);
        Check.due("SEED stays", 65_536, x.size(8));
    }

    private static void undo() {
        ElephantLine x = Check.told(WAR);
        x.seed(5);
        x.move(0, 1);
        x.seed(6);
        x.wound(0, 3);
        x.hammer(2);
        x.teach(1, 2);
        x.rain(true);
        x.seed(7);
        x.battle();
        Check.due("six acts", 6, x.size(9));
        Check.due("battle undone", true, x.undo(), 0, x);
        Check.due("SEED 7", 7, x.size(8));
        x.undo();
        Check.due("no rain", 0, x.size(7));
        Check.due("SEED 6", 6, x.size(8));
        x.undo();
        Check.due("weeks", 3, x.lane(1, 1));
        x.undo();
        Check.due("lives", 0, x.beast(2, 7));
        x.undo();
        Check.due("no wounds", 0, x.beast(0, 6));
        Check.due("SEED 6 yet", 6, x.size(8));
        x.undo();
        Check.due("its lane", 0, x.beast(0, 1));
        Check.due("SEED 5", 5, x.size(8));
        Check.due("no more", false, x.undo(), 6, x);
    }

    private static void sixteen() {
        ElephantLine x = Check.told(WAR);
        for (int i = 1; i <= 20; i++) {
            x.wound(0, 1);
            Check.due("kept " + i, Math.min(16, i), x.size(9));
        }
        for (int i = 1; i <= 16; i++) {
            Check.due("undo " + i, true, x.undo(), 0, x);
            Check.due("wounds " + i, 20 - i, x.beast(0, 6));
        }
        Check.due("the seventeenth", false, x.undo(), 6, x);
        Check.due("wounds stay", 4, x.beast(0, 6));
        x.wound(0, 9);
        x.undo();
        Check.due("wounds again", 4, x.beast(0, 6));
    }

    private static void marks() {
        ElephantLine x = Check.told(WAR);
        x.wound(0, 1);
        x.seed(11);
        Check.due("mark 0", 0, x.mark(), 0, x);
        Check.due("no act", 1, x.size(9));
        x.move(1, 0);
        x.rain(true);
        x.battle();
        Check.due("mark 1", 1, x.mark(), 0, x);
        x.hammer(0);
        x.teach(1, 9);
        Check.due("back 0", true, x.back(0), 0, x);
        Check.due("wounds", 1, x.beast(0, 6));
        Check.due("SEED", 11, x.size(8));
        Check.due("lane", 1, x.beast(1, 1));
        Check.due("no rain", 0, x.size(7));
        Check.due("lives", 0, x.beast(0, 7));
        Check.due("weeks", 3, x.lane(1, 1));
        Check.due("nothing can be undone", false, x.undo(), 6, x);
        Check.due("marks stay", 2, x.size(10));
        Check.due("forward to 1", true, x.back(1), 0, x);
        Check.due("rain", 1, x.size(7));
        Check.due("moved", 0, x.beast(1, 1));
        x.wound(0, 7);
        x.undo();
        Check.due("undone to the mark", 1, x.beast(0, 6));
        x.wound(0, 2);
        Check.due("back again", true, x.back(1), 0, x);
        Check.due("a mark stays as it was", 1, x.beast(0, 6));
        Check.due("mark 2", 2, x.mark(), 0, x);
        Check.due("no room", -1, x.mark(), 3, x);
        x.hammer(2);
        x.undo();
        Check.due("undo leaves marks", 3, x.size(10));
    }

    private static void led() {
        ElephantLine x = Check.told(WAR);
        Check.dueThrow("none led", x, 0);
        x.hammer(2);
        x.hammer(0);
        Check.due("by numbers", 0, x.led(0));
        Check.due("second", 2, x.led(1));
        Check.dueThrow("third", x, 2);
        Check.dueThrow("-1", x, -1);
        Check.dueThrow("least", x, Integer.MIN_VALUE);
        Check.dueThrow("most", x, Integer.MAX_VALUE);
        x.undo();
        Check.due("one", 2, x.led(0));
        Check.dueThrow("one only", x, 1);
    }

    private static void size() {
        ElephantLine x = Check.told(WAR + ";city a;city b;city f;pass a b loses 3;pass b f loses 4;turned e;turned d");
        x.rain(true);
        x.seed(99);
        x.mark();
        x.wound(0, 1);
        x.feed(0, 0, 0, 0, 0);
        int[] want = {3, 2, 3, 3, 3, 2, 2, 1, 99, 2, 1, 20};
        for (int what = 0; what < 12; what++) {
            Check.due("size " + what, want[what], x.size(what));
        }
        for (int what : new int[] {-1, 12, Integer.MIN_VALUE, Integer.MAX_VALUE}) {
            Check.due("size " + what, -1, x.size(what));
        }
    }
}
