/** Promises 25 to 31: sales for a province, marches over mountains. */
public final class MarchTest {
    private static final String FIELD = "field lanes 2 deep 1;beast p plain in 0 mood 50 price 40"
        + ";beast q calf in 1 mood 60 price 10;beast r drunk in 1 mood 25 price 50";
    private static final String CITIES = ";city a;city b;city x;pass a b loses 50;pass a x loses 10;pass x b loses 20";

    public static void main(String[] args) {
        sale();
        march();
        likeWays();
        reach();
        worstPass();
        setOut();
        Check.end("MarchTest");
    }

    private static void sold(ElephantLine x, int much, int bits, int over) {
        Check.due("sale " + much, bits, x.sale(much), 0, x);
        Check.due("saleOver " + much, over, x.saleOver(much), over < 0 ? 6 : 0, x);
    }

    private static void sale() {
        ElephantLine x = Check.told(FIELD);
        sold(x, 0, 0, 0);
        sold(x, 1, 1, 39);
        sold(x, 40, 1, 0);
        sold(x, 41, 4, 9);
        sold(x, 50, 4, 0);
        sold(x, 51, 5, 39);
        sold(x, 90, 5, 0);
        sold(x, 91, 7, 9);
        sold(x, 100, 7, 0);
        sold(x, 101, -2, -1);
        sold(x, 500, -2, -1);
        x.hammer(0);
        sold(x, 10, 2, 0);
        sold(x, 51, 6, 9);
        sold(x, 61, -2, -1);
        x.hammer(1);
        x.hammer(2);
        sold(x, 0, 0, 0);
        sold(x, 1, -2, -1);
        StringBuilder five = new StringBuilder("field lanes 2 deep 1");
        for (char c = 'a'; c <= 'e'; c++) {
            five.append(";beast ").append(c).append(" plain in 0 mood 1 price 99");
        }
        x = Check.told(five.toString());
        sold(x, 99, 1, 0);
        sold(x, 100, 3, 98);
        sold(x, 495, 31, 0);
        sold(x, 496, -2, -1);
    }

    private static void way(ElephantLine x, int from, int to, int many, int... cities) {
        for (int i = 0; i < cities.length; i++) {
            Check.due("marchAt " + many + " " + i, cities[i], x.marchAt(from, to, many, i), 0, x);
        }
        Check.due("marchAt end", -1, x.marchAt(from, to, many, cities.length), 1, x);
        Check.due("marchAt -1", -1, x.marchAt(from, to, many, -1), 1, x);
    }

    private static void march() {
        ElephantLine x = Check.told(FIELD + CITIES);
        Check.due("hundred", 72, x.march(0, 1, 100), 0, x);
        way(x, 0, 1, 100, 0, 2, 1);
        Check.due("back", 72, x.march(1, 0, 100), 0, x);
        way(x, 1, 0, 100, 1, 2, 0);
        Check.due("seven: upwards", 4, x.march(0, 1, 7));
        Check.due("none", 0, x.march(0, 1, 0), 0, x);
        way(x, 0, 1, 0, 0, 1);
        Check.due("one is lost at once", 0, x.march(0, 1, 1));
        way(x, 0, 1, 1, 0, 1);
        Check.due("all", 719, x.march(0, 1, 999));
        Check.due("itself", 5, x.march(2, 2, 5), 0, x);
        way(x, 2, 2, 5, 2);
        x = Check.told(FIELD + ";city a;city b");
        Check.due("no WAY", -2, x.march(0, 1, 5), 0, x);
        Check.due("no WAY's city", -1, x.marchAt(0, 1, 5, 0), 1, x);
        Check.due("itself without passes", 999, x.march(0, 0, 999));
        x = Check.told(FIELD + ";city a;city b;pass b a loses 0");
        Check.due("nobody is lost", 999, x.march(0, 1, 999));
        x = Check.told(FIELD + ";city a;city b;pass b a loses 99");
        Check.due("most are lost", 9, x.march(0, 1, 999));
        Check.due("hundred less 99", 1, x.march(0, 1, 100));
        Check.due("99 less 99", 0, x.march(0, 1, 99));
    }

    private static void likeWays() {
        ElephantLine x = Check.told(FIELD + ";city a;city b;city c;city d;city f;city g"
            + ";pass a g loses 0;pass a f loses 0;pass f g loses 0;pass a d loses 0;pass d g loses 0;pass d f loses 0"
            + ";pass c g loses 0;pass b c loses 0;pass b a loses 0");
        Check.due("like ways", 50, x.march(0, 5, 50));
        way(x, 0, 5, 50, 0, 1, 2, 5);
        way(x, 5, 0, 50, 5, 0);
        way(x, 3, 0, 50, 3, 0);
        way(x, 3, 4, 9, 3, 0, 1, 2, 5, 4);
        way(x, 4, 5, 0, 4, 0, 1, 2, 5);
    }

    private static void reach() {
        ElephantLine x = Check.told(FIELD + ";city a;city b;city c;city d;city f;city g"
            + ";pass a g loses 0;pass g c loses 99;pass c f loses 5;pass b d loses 1");
        int[] want = {0b110101, 0b001010, 0b110101, 0b001010, 0b110101, 0b110101};
        for (int c = 0; c < 6; c++) {
            Check.due("reach " + c, want[c], x.reach(c), 0, x);
        }
        Check.due("alone", 1, Check.told(FIELD + ";city a;city b").reach(0));
    }

    private static void worstPass() {
        ElephantLine x = Check.told(FIELD + CITIES);
        Check.due("the second", 21, x.worstPass(0, 1, 100), 0, x);
        Check.due("the first going back", 12, x.worstPass(1, 0, 100));
        Check.due("nobody marches", -2, x.worstPass(0, 1, 0), 0, x);
        Check.due("nowhere", -2, x.worstPass(0, 0, 100), 0, x);
        Check.due("one by one pass", 1, x.worstPass(0, 1, 1));
        Check.due("alike: the first", 2, x.worstPass(0, 1, 5));
        x = Check.told(FIELD + ";city a;city b;city c;pass a b loses 0");
        Check.due("nobody is lost", -2, x.worstPass(0, 1, 100), 0, x);
        Check.due("no WAY", -2, x.worstPass(0, 2, 100), 0, x);
    }

    private static void setOut() {
        ElephantLine x = Check.told(FIELD + CITIES);
        Check.due("seventy-two", 100, x.setOut(0, 1, 72), 0, x);
        Check.due("seventy-one", 99, x.setOut(0, 1, 71));
        Check.due("none", 0, x.setOut(0, 1, 0), 0, x);
        Check.due("one", 2, x.setOut(0, 1, 1));
        Check.due("all that can", 999, x.setOut(0, 1, 719));
        Check.due("more than can", -2, x.setOut(0, 1, 720), 0, x);
        Check.due("itself", 999, x.setOut(1, 1, 999));
        x = Check.told(FIELD + ";city a;city b");
        Check.due("no WAY", -2, x.setOut(0, 1, 0), 0, x);
    }
}
