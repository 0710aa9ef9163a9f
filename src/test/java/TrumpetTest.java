/** Promises 32 to 36: whose trumpet it was. */
public final class TrumpetTest {
    private static final String FIELD = "field lanes 6 deep 1;beast a plain in 0 mood 80 price 1"
        + ";beast b plain in 1 mood 49 price 1;beast c plain in 2 mood 50 price 1"
        + ";beast d calf in 4 mood 69 price 1;beast m mailed in 5 mood 99 price 1";

    public static void main(String[] args) {
        turnedBy();
        sets();
        ask();
        dead();
        Check.end("TrumpetTest");
    }

    private static void told(String name, ElephantLine x, int fits, int could, int surely, int ask) {
        Check.due(name + ": fits", fits, x.fits(), 0, x);
        Check.due(name + ": could", could, x.could(), 0, x);
        Check.due(name + ": surely", surely, x.surely(), 0, x);
        Check.due(name + ": ask", ask, x.ask(), 0, x);
    }

    private static void turnedBy() {
        ElephantLine x = Check.told(FIELD);
        int[] want = {2, 2, 2, 8, 8};
        for (int b = 0; b < 5; b++) {
            Check.due("turnedBy " + b, want[b], x.turnedBy(b), 0, x);
        }
        x.rain(true);
        Check.due("a mailed one in rain", 24, x.turnedBy(4));
        x.move(1, 5);
        Check.due("in the same lane and beside it", 26, x.turnedBy(4));
        Check.due("nobody", 0, x.turnedBy(0), 0, x);
        x.hammer(4);
        Check.due("a dead one's", 0, x.turnedBy(4), 0, x);
        Check.due("a dead one doesn't turn", 10, x.turnedBy(3));
    }

    private static void sets() {
        // Told b: any of a, b, c, but none of d, m.
        told("b", Check.told(FIELD + ";turned b"), 7, 7, 0, 0);
        // Told d: any of d, m.
        told("d", Check.told(FIELD + ";turned d"), 3, 24, 0, 3);
        // Told both: 7 by 3 sets.
        told("b and d", Check.told(FIELD + ";turned d;turned b"), 21, 31, 0, 0);
        told("c", Check.told(FIELD + ";turned c"), 0, 0, 0, -2);
        told("nobody", Check.told(FIELD), 0, 0, 0, -2);
        ElephantLine x = Check.told("field lanes 6 deep 1;beast a plain in 0 mood 9 price 1;beast b plain in 3 mood 90 price 1;turned a");
        told("surely a", x, 2, 3, 1, 1);
        x = Check.told("field lanes 2 deep 1;beast m mailed in 1 mood 51 price 9");
        told("itself without turning", x, 1, 1, 1, 0);
    }

    private static void ask() {
        // The first beast is in all sets, so asking it leaves all; the second parts them evenly.
        ElephantLine x = Check.told("field lanes 6 deep 1;beast a plain in 0 mood 9 price 1;beast b plain in 3 mood 90 price 1"
            + ";beast c plain in 4 mood 90 price 1;turned a");
        told("four sets", x, 4, 7, 1, 1);
        x.move(1, 0);
        told("six sets", x, 6, 7, 0, 2);
    }

    private static void dead() {
        ElephantLine x = Check.told(FIELD + ";turned b");
        x.hammer(0);
        told("one dead", x, 3, 6, 0, 1);
        x.hammer(2);
        told("b alone", x, 1, 2, 2, 0);
        x.hammer(1);
        told("who was told to have turned is dead", x, 0, 0, 0, -2);
    }
}
