/** Terms III of sales, marches and trumpets, promises 25 to 36: each sentence that names an edge, by a test of its own. */
public final class MarchEdgesTest {
    private static final int TERMS = Edges.TERMS;
    private static final String FIELD = "field lanes 2 deep 1;beast p plain in 0 mood 50 price 40";
    private static final String SIX = ";city a;city b;city c;city d;city f;city g";
    private static final String FIVE = "field lanes 6 deep 1;beast a plain in 0 mood 80 price 1"
        + ";beast b plain in 1 mood 49 price 1;beast c plain in 2 mood 50 price 1"
        + ";beast d calf in 4 mood 69 price 1;beast m mailed in 5 mood 99 price 1";

    public static void main(String[] args) {
        sale();
        saleOver();
        marchTerms();
        march();
        marchAt();
        reach();
        worstPass();
        setOut();
        trumpetTerms();
        trumpets();
        ask();
        turnedBy();
        Edges.haveAll(25, 36);
        Check.end("MarchEdgesTest");
    }

    private static ElephantLine priced(int... prices) {
        StringBuilder s = new StringBuilder("field lanes 2 deep 1");
        for (int b = 0; b < prices.length; b++) {
            s.append(";beast ").append((char) ('p' + b)).append(" plain in 0 mood 1 price ").append(prices[b]);
        }
        return Check.told(s.toString());
    }

    private static void sale() {
        Edges.sentence(TERMS, "SALE: the fewest beasts not dead whose prices together are so much", () -> {
            ElephantLine x = priced(10, 20, 30);
            Check.due("none for nothing", 0, x.sale(0), 0, x);
            Check.due("one, not two", 4, x.sale(30));
            Check.due("just so much", 4, x.sale(21));
            Check.due("two, not three", 6, x.sale(50));
            Check.due("all", 7, x.sale(60));
            x.hammer(2);
            Check.due("not the dead one", 3, x.sale(30));
            x.hammer(0);
            x.hammer(1);
            Check.due("all dead, for nothing", 0, x.sale(0), 0, x);
            Check.due("all dead, for 1", -2, x.sale(1), 0, x);
        });
        Edges.sentence(TERMS, "of like ones the least bits", () -> {
            ElephantLine x = priced(99, 99, 99, 99, 99);
            int[] want = {1, 3, 7, 15, 31};
            for (int i = 0; i < 5; i++) {
                Check.due("sale of " + (i + 1), want[i], x.sale(99 * i + 1));
            }
            Check.due("not the dearest of one", 1, priced(10, 99).sale(10));
            x.hammer(0);
            Check.due("but for the dead one", 6, x.sale(198));
        });
        Edges.sentence(25, "SALE for so much (0 .. 500), as bits", () ->
            Edges.within("sale", 0, 500, -1, (x, n) -> x.sale(n)));
        Edges.sentence(25, "-2 all aren't enough", () -> {
            ElephantLine x = priced(99, 99, 99, 99, 99);
            Check.due("just enough", 31, x.sale(495), 0, x);
            Check.due("one more", -2, x.sale(496), 0, x);
            Check.due("the most", -2, x.sale(500), 0, x);
        });
        Edges.sentence(25, "NONE: 1 (no WAR); 2.", () -> {
            Edges.noWar("sale", -1, x -> x.sale(0));
            Edges.noWar("sale, 1 ahead of 2", -1, x -> x.sale(501));
            Edges.within("sale", 0, 500, -1, (x, n) -> x.sale(n));
        });
    }

    private static void saleOver() {
        Edges.sentence(26, "What these bring more than so much", () -> {
            ElephantLine x = priced(10, 20, 30);
            Check.due("nothing", 0, x.saleOver(0), 0, x);
            Check.due("nothing over", 0, x.saleOver(30), 0, x);
            Check.due("9", 9, x.saleOver(1), 0, x);
            Check.due("all, nothing over", 0, x.saleOver(60), 0, x);
        });
        Edges.sentence(26, "NONE: 1 (no WAR); 2; 6 (not enough)", () -> {
            Edges.noWar("saleOver", -1, x -> x.saleOver(0));
            Edges.noWar("saleOver, 1 ahead of 2", -1, x -> x.saleOver(-1));
            Edges.within("saleOver", 0, 500, -1, (x, n) -> x.saleOver(n));
            ElephantLine x = priced(10, 20, 30);
            Edges.refused("saleOver 61", x, 6, -1, () -> x.saleOver(61));
            x.hammer(0);
            x.hammer(1);
            x.hammer(2);
            Edges.refused("saleOver of the dead", x, 6, -1, () -> x.saleOver(1));
            Check.due("0 of the dead", 0, x.saleOver(0), 0, x);
        });
    }

    private static void way(ElephantLine x, int from, int to, int many, int... cities) {
        for (int i = 0; i < cities.length; i++) {
            Check.due("city " + i + " from " + from + " to " + to, cities[i], x.marchAt(from, to, many, i), 0, x);
        }
        Check.due("behind the last city", -1, x.marchAt(from, to, many, cities.length), 1, x);
    }

    private static void marchTerms() {
        Edges.sentence(TERMS, "by passes, no city twice", () -> {
            ElephantLine x = Check.told(FIELD + SIX + ";pass a b loses 0;pass b c loses 0;pass c d loses 0;pass d f loses 0;pass f g loses 0");
            way(x, 0, 5, 9, 0, 1, 2, 3, 4, 5);
            way(x, 5, 0, 9, 5, 4, 3, 2, 1, 0);
            way(x, 3, 3, 9, 3);
            x = Check.told(FIELD + ";city a;city b;pass b a loses 10");
            Check.due("there", 90, x.march(1, 0, 100));
            Check.due("and back", 90, x.march(0, 1, 100));
        });
        Edges.sentence(TERMS, "of those that come to a pass as many in a hundred are lost as told, upwards", () -> {
            ElephantLine x = Check.told(FIELD + ";city a;city b;city c;pass a b loses 1;pass b c loses 99");
            Check.due("none of none", 0, x.march(0, 1, 0));
            Check.due("one of one", 0, x.march(0, 1, 1));
            Check.due("one of a hundred", 99, x.march(0, 1, 100));
            Check.due("two of 101", 99, x.march(0, 1, 101));
            Check.due("ten of 999", 989, x.march(0, 1, 999));
            Check.due("99 of 99", 0, x.march(1, 2, 99));
            Check.due("99 of 100", 1, x.march(1, 2, 100));
            Check.due("two passes: 990 of 999", 9, x.march(1, 2, 999));
            Check.due("of those that come to it", 1, x.march(0, 2, 102));
            x = Check.told(FIELD + ";city a;city b;pass a b loses 0");
            Check.due("none of any", 999, x.march(0, 1, 999));
        });
        Edges.sentence(TERMS, "the WAY by which most come", () -> {
            ElephantLine x = Check.told(FIELD + ";city a;city b;city c;pass a b loses 50;pass a c loses 10;pass c b loses 20");
            way(x, 0, 1, 100, 0, 2, 1);
            Check.due("round", 72, x.march(0, 1, 100));
            way(x, 0, 1, 2, 0, 1);
            Check.due("straight", 1, x.march(0, 1, 2));
        });
        Edges.sentence(TERMS, "of like ones the first by cities", () -> {
            ElephantLine x = Check.told(FIELD + ";city a;city b;city c;city d;pass a d loses 0;pass a c loses 0;pass c d loses 0"
                + ";pass a b loses 0;pass b d loses 0;pass b c loses 0");
            way(x, 0, 3, 9, 0, 1, 2, 3);
            way(x, 3, 0, 9, 3, 0);
            way(x, 0, 3, 0, 0, 1, 2, 3);
            way(x, 2, 3, 9, 2, 0, 1, 3);
        });
    }

    private static void march() {
        Edges.sentence(27, "A MARCH of so many (0 .. 999): how many come", () ->
            Edges.within("march", 0, 999, -1, (x, n) -> x.march(0, 1, n)));
        Edges.sentence(27, "-2 there is no WAY", () -> {
            ElephantLine x = Check.told(FIELD + ";city a;city b");
            Check.due("no pass", -2, x.march(0, 1, 5), 0, x);
            Check.due("of none", -2, x.march(1, 0, 0), 0, x);
            Check.due("to itself there is", 5, x.march(1, 1, 5), 0, x);
            x = Check.told(FIELD + ";city a;city b;pass a b loses 99");
            Check.due("all are lost, but there is", 0, x.march(0, 1, 5), 0, x);
        });
        Edges.sentence(27, "NONE: 1; 2.", () -> {
            Edges.noSuch("march from", Edges.NO_CITIES, -1, (x, c) -> x.march(c, 0, 5));
            Edges.noSuch("march to", Edges.NO_CITIES, -1, (x, c) -> x.march(0, c, 5));
            Edges.noSuch("march, 1 ahead of 2", Edges.NO_CITIES, -1, (x, c) -> x.march(0, c, 1000));
            Edges.within("march", 0, 999, -1, (x, n) -> x.march(0, 1, n));
            ElephantLine x = Check.told(FIELD);
            Edges.refused("march without cities", x, 1, -1, () -> x.march(0, 0, 5));
        });
    }

    private static void marchAt() {
        Edges.sentence(28, "The i-th city of its WAY (0: the first)", () -> {
            ElephantLine x = Check.told(Edges.WAR);
            way(x, 0, 1, 100, 0, 2, 1);
            way(x, 1, 0, 100, 1, 2, 0);
            way(x, 2, 2, 100, 2);
            way(x, 0, 1, 999, 0, 2, 1);
        });
        Edges.sentence(28, "NONE: 1 (i, too); 2.", () -> {
            Edges.noSuch("marchAt from", Edges.NO_CITIES, -1, (x, c) -> x.marchAt(c, 0, 5, 0));
            Edges.noSuch("marchAt to", Edges.NO_CITIES, -1, (x, c) -> x.marchAt(0, c, 5, 0));
            Edges.noSuch("marchAt i", new int[] {-1, 3, 6, Integer.MIN_VALUE, Integer.MAX_VALUE}, -1, (x, i) -> x.marchAt(0, 1, 100, i));
            Edges.noSuch("marchAt i, to itself", new int[] {-1, 1}, -1, (x, i) -> x.marchAt(1, 1, 100, i));
            Edges.within("marchAt", 0, 999, -1, (x, n) -> x.marchAt(0, 1, n, 0));
            ElephantLine x = Check.told(FIELD + ";city a;city b;city c;pass a b loses 1");
            Check.due("marchAt by a WAY", 0, x.marchAt(0, 1, 5, 0), 0, x);
            Edges.refused("marchAt without one", x, 1, -1, () -> x.marchAt(0, 2, 5, 0));
        });
    }

    private static void reach() {
        Edges.sentence(29, "Cities to which there is a WAY from one, itself too, as bits", () -> {
            ElephantLine x = Check.told(FIELD + SIX + ";pass g f loses 99;pass f d loses 99;pass d c loses 99;pass c b loses 99;pass b a loses 99");
            for (int c = 0; c < 6; c++) {
                Check.due("all from " + c, 63, x.reach(c), 0, x);
            }
            x = Check.told(FIELD + SIX + ";pass a g loses 0");
            int[] want = {33, 2, 4, 8, 16, 33};
            for (int c = 0; c < 6; c++) {
                Check.due("from " + c, want[c], x.reach(c), 0, x);
            }
        });
        Edges.sentence(29, "NONE: 1", () -> Edges.noSuch("reach", Edges.NO_CITIES, -1, (x, c) -> x.reach(c)));
    }

    private static void worstPass() {
        Edges.sentence(30, "The pass on its WAY on which most are lost: 10 times the city ahead of it and the one behind, the first such on the WAY", () -> {
            ElephantLine x = Check.told(Edges.WAR);
            Check.due("the second", 21, x.worstPass(0, 1, 100), 0, x);
            Check.due("the first, back", 12, x.worstPass(1, 0, 100), 0, x);
            Check.due("alike: the first", 2, x.worstPass(0, 1, 5), 0, x);
            Check.due("of one", 1, x.worstPass(0, 1, 1), 0, x);
            x = Check.told(FIELD + ";city a;city b;city c;pass a b loses 10;pass b c loses 11");
            Check.due("ten of a hundred and ten of ninety", 1, x.worstPass(0, 2, 100));
        });
        Edges.sentence(30, "-2 there is none, or nobody is lost", () -> {
            ElephantLine x = Check.told(FIELD + ";city a;city b;city c;pass a b loses 0");
            Check.due("no WAY", -2, x.worstPass(0, 2, 100), 0, x);
            Check.due("no pass on it", -2, x.worstPass(0, 0, 100), 0, x);
            x = Check.told(FIELD + ";city a;city b;city c;pass a b loses 1");
            Check.due("a pass", 1, x.worstPass(0, 1, 100), 0, x);
            Check.due("then no WAY", -2, x.worstPass(0, 2, 100), 0, x);
            x = Check.told(FIELD + ";city a;city b;pass a b loses 0");
            Check.due("nobody is lost", -2, x.worstPass(0, 1, 999), 0, x);
            x = Check.told(Edges.WAR);
            Check.due("nobody marches", -2, x.worstPass(0, 1, 0), 0, x);
        });
        Edges.sentence(30, "NONE: 1; 2.", () -> {
            Edges.noSuch("worstPass from", Edges.NO_CITIES, -1, (x, c) -> x.worstPass(c, 0, 5));
            Edges.noSuch("worstPass to", Edges.NO_CITIES, -1, (x, c) -> x.worstPass(0, c, 5));
            Edges.noSuch("worstPass, 1 ahead of 2", Edges.NO_CITIES, -1, (x, c) -> x.worstPass(c, 0, -1));
            Edges.within("worstPass", 0, 999, -1, (x, n) -> x.worstPass(0, 1, n));
        });
    }

    private static void setOut() {
        Edges.sentence(31, "How many must set out (0 .. 999), at least, so that so many (0 .. 999) come", () -> {
            ElephantLine x = Check.told(Edges.WAR);
            Check.due("none", 0, x.setOut(0, 1, 0), 0, x);
            Check.due("one", 2, x.setOut(0, 1, 1), 0, x);
            Check.due("all that can", 999, x.setOut(0, 1, 719), 0, x);
            for (int come = 1; come < 720; come += 7) {
                int out = x.setOut(0, 1, come);
                Check.due("so many come of " + out, true, x.march(0, 1, out) >= come);
                Check.due("one less isn't enough for " + come, false, x.march(0, 1, out - 1) >= come);
            }
            Check.due("to itself", 999, x.setOut(2, 2, 999), 0, x);
            Edges.within("setOut", 0, 999, -1, (y, n) -> y.setOut(0, 1, n));
        });
        Edges.sentence(31, "-2 not so many can", () -> {
            ElephantLine x = Check.told(Edges.WAR);
            Check.due("one too many", -2, x.setOut(0, 1, 720), 0, x);
            Check.due("the most", -2, x.setOut(0, 1, 999), 0, x);
            x = Check.told(FIELD + ";city a;city b;city c;pass b c loses 99");
            Check.due("no WAY, even for none", -2, x.setOut(0, 1, 0), 0, x);
            Check.due("nine of 999", 900, x.setOut(1, 2, 9), 0, x);
            Check.due("ten", -2, x.setOut(1, 2, 10), 0, x);
        });
        Edges.sentence(31, "NONE: 1; 2.", () -> {
            Edges.noSuch("setOut from", Edges.NO_CITIES, -1, (x, c) -> x.setOut(c, 0, 5));
            Edges.noSuch("setOut to", Edges.NO_CITIES, -1, (x, c) -> x.setOut(0, c, 5));
            Edges.noSuch("setOut, 1 ahead of 2", Edges.NO_CITIES, -1, (x, c) -> x.setOut(0, c, 1000));
            Edges.within("setOut", 0, 999, -1, (x, n) -> x.setOut(0, 1, n));
        });
    }

    private static void trumpetTerms() {
        Edges.sentence(TERMS, "TRUMPETS: sets of beasts not dead, one or more, that trumpeted", () -> {
            ElephantLine x = Check.told("field lanes 2 deep 1;beast a plain in 0 mood 50 price 1;beast b plain in 0 mood 50 price 1");
            // Nobody turned by any set; that of none isn't one.
            Check.due("all but that of none", 3, x.fits(), 0, x);
            x.hammer(0);
            Check.due("not the dead one", 1, x.fits(), 0, x);
            x.hammer(1);
            Check.due("all dead", 0, x.fits(), 0, x);
        });
        Edges.sentence(TERMS, "by each all not dead that are in its lane or in one beside it and whose HOLD is below 50 turn (itself too)", () -> {
            ElephantLine x = Check.told("field lanes 6 deep 1;beast a plain in 0 mood 49 price 1;beast b plain in 0 mood 0 price 1"
                + ";beast c plain in 1 mood 50 price 1;beast d plain in 2 mood 49 price 1;beast m plain in 5 mood 49 price 1");
            Check.due("itself, in its lane; not two lanes off", 3, x.turnedBy(0));
            Check.due("on both sides, not itself by 50", 11, x.turnedBy(2));
            Check.due("itself alone, not another one of lane 0", 16, x.turnedBy(4));
            x.hammer(1);
            Check.due("not the dead one", 9, x.turnedBy(2));
        });
        Edges.sentence(TERMS, "those by which just the beasts told turned: all that fit", () -> {
            Check.due("b: any of a, b, c", 7, Check.told(FIVE + ";turned b").fits());
            Check.due("d: d, m, both", 3, Check.told(FIVE + ";turned d").fits());
            Check.due("b and d", 21, Check.told(FIVE + ";turned d;turned b").fits());
            Check.due("a never turns", 0, Check.told(FIVE + ";turned a").fits());
            Check.due("b, but a never", 0, Check.told(FIVE + ";turned a;turned b").fits());
            Check.due("nobody: all turn some", 0, Check.told(FIVE).fits());
        });
        Edges.sentence(TERMS, "ASK: the beast by which, it being told whether it did, at most fewest are left, the first such", () -> {
            Check.due("four of seven: the first", 0, Check.told(FIVE + ";turned b").ask());
            Check.due("two of three: the first of d, m", 3, Check.told(FIVE + ";turned d").ask());
            ElephantLine x = Check.told("field lanes 6 deep 1;beast a plain in 0 mood 9 price 1;beast b plain in 3 mood 90 price 1;turned a");
            Check.due("a did in both, b in one", 1, x.ask());
            x.move(1, 1);
            Check.due("a, b or both: the first", 0, x.ask());
        });
    }

    private static void trumpets() {
        Edges.sentence(32, "how many sets", () -> {
            StringBuilder s = new StringBuilder("field lanes 2 deep 1");
            for (int b = 0; b < 5; b++) {
                s.append(";beast ").append((char) ('p' + b)).append(" plain in 0 mood 50 price 1");
            }
            ElephantLine x = Check.told(s.toString());
            Check.due("all 31", 31, x.fits(), 0, x);
            x = Check.told(s + ";turned p");
            Check.due("none", 0, x.fits(), 0, x);
        });
        Edges.sentence(32, "NONE: 1 (no WAR)", () -> Edges.noWar("fits", -1, x -> x.fits()));
        Edges.sentence(33, "Beasts that are in some, as bits", () -> {
            ElephantLine x = Check.told(FIVE + ";turned d;turned b");
            Check.due("all", 31, x.could(), 0, x);
            x = Check.told(FIVE + ";turned b");
            Check.due("three", 7, x.could(), 0, x);
            x.hammer(0);
            Check.due("not the dead one", 6, x.could(), 0, x);
            x = Check.told(FIVE + ";turned a");
            Check.due("no sets", 0, x.could(), 0, x);
        });
        Edges.sentence(33, "NONE: 1 (no WAR)", () -> Edges.noWar("could", -1, x -> x.could()));
        Edges.sentence(34, "Beasts that are in all (0, if there are no sets), as bits", () -> {
            ElephantLine x = Check.told(FIVE + ";turned a");
            Check.due("no sets", 0, x.surely(), 0, x);
            x = Check.told(FIVE + ";turned b");
            Check.due("none in all", 0, x.surely(), 0, x);
            x.hammer(0);
            x.hammer(2);
            Check.due("one set", 2, x.surely(), 0, x);
            x = Check.told("field lanes 6 deep 1;beast a plain in 0 mood 9 price 1;beast b plain in 3 mood 90 price 1;turned a");
            Check.due("one of two", 1, x.surely(), 0, x);
        });
        Edges.sentence(34, "NONE: 1 (no WAR)", () -> Edges.noWar("surely", -1, x -> x.surely()));
    }

    private static void ask() {
        Edges.sentence(35, "-2 there are no sets", () -> {
            ElephantLine x = Check.told(FIVE + ";turned a");
            Check.due("none", -2, x.ask(), 0, x);
            x = Check.told(FIELD);
            Check.due("one", 0, x.ask(), 0, x);
            x.hammer(0);
            Check.due("all dead", -2, x.ask(), 0, x);
        });
        Edges.sentence(35, "NONE: 1 (no WAR)", () -> Edges.noWar("ask", -1, x -> x.ask()));
    }

    private static void turnedBy() {
        Edges.sentence(36, "Which would turn by one's trumpet, as bits", () -> {
            ElephantLine x = Check.told(FIVE);
            int[] dry = {2, 2, 2, 8, 8};
            int[] wet = {2, 2, 2, 24, 24};
            for (int b = 0; b < 5; b++) {
                Check.due("dry " + b, dry[b], x.turnedBy(b), 0, x);
            }
            x.rain(true);
            for (int b = 0; b < 5; b++) {
                Check.due("wet " + b, wet[b], x.turnedBy(b), 0, x);
            }
            x.move(0, 3);
            x.hammer(1);
            Check.due("moved", 8, x.turnedBy(0), 0, x);
            Check.due("nobody", 0, x.turnedBy(2), 0, x);
            x.hammer(4);
            Check.due("a dead one's: nobody beside it", 0, x.turnedBy(4), 0, x);
        });
        Edges.sentence(36, "NONE: 1", () -> Edges.noSuch("turnedBy", Edges.NO_BEASTS, -1, (x, b) -> x.turnedBy(b)));
    }
}
