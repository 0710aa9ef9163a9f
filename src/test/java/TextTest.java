/** Promises 1 to 5: the tape, the text of a war and its faults. */
public final class TextTest {
    private static final String FIELD = "field lanes 3 deep 2";
    private static final String BEAST = ";beast e plain in 0 mood 5 price 5";
    private static final String CITIES = ";city a;city b;city c;city d;city f;city g";

    public static void main(String[] args) {
        newObject();
        tape();
        forms();
        names();
        bounds();
        toldAgain();
        many();
        lacks();
        order();
        warStays();
        whereIsForgotten();
        Check.end("TextTest");
    }

    private static void newObject() {
        ElephantLine x = new ElephantLine();
        Check.due("new trouble", 0, x.trouble());
        Check.due("new fault", 0, x.fault());
        Check.due("new where", -1, x.where());
        for (int what = 0; what <= 11; what++) {
            Check.due("new size " + what, 0, x.size(what));
        }
        Check.due("new size -1", -1, x.size(-1));
        Check.due("new size 12", -1, x.size(12));
    }

    private static void tape() {
        ElephantLine x = new ElephantLine();
        for (int i = 1; i <= 45; i++) {
            Check.due("feed " + i, 20 * i, x.feed(0, 0, 0, 0, 0));
        }
        Check.due("feed above 900", -1, x.feed(0, 0, 0, 0, 0));
        Check.due("trouble isn't feed's", 0, x.trouble());
        Check.due("tape is full", 900, x.size(11));
        Check.due("war 901", -1, x.war(901), 2, x);
        Check.due("war -1", -1, x.war(-1), 2, x);
        Check.due("war least", -1, x.war(Integer.MIN_VALUE), 2, x);
        Check.due("war most", -1, x.war(Integer.MAX_VALUE), 2, x);
        Check.due("the tape stays", 900, x.size(11));
        Check.due("no fault yet", 0, x.fault());
        Check.due("war 900", -1, x.war(900), 4, x);
        Check.due("byte 0 is no token", 1, x.fault());
        Check.due("byte 0 at", 0, x.where());
        Check.due("the tape is empty", 0, x.size(11));
        Check.due("war 1 of none", -1, x.war(1), 2, x);
        Check.due("fault of the war ahead", 1, x.fault());
        Check.due("where behind 2", -1, x.where());
        String text = FIELD + BEAST + CITIES;
        StringBuilder padded = new StringBuilder(text);
        while (padded.length() < 900) {
            padded.insert(20, ' ');
        }
        Check.due("feed 900 told", 900, Check.feed(x, padded.toString()));
        Check.due("war of 900 bytes", 1, x.war(900), 0, x);
        Check.due("feed order", 20, x.feed(0x66696c64, 0, 0, 0, 0));
        Check.due("feed again", 40, x.feed(0, 0, 0, 0, 0));
        Check.feed(x, FIELD + BEAST);
        Check.due("the first n bytes", -1, x.war(1), 4, x);
        Check.due("'f' alone", 1, x.fault());
        Check.due("'f' alone at", 0, x.where());
        Check.due("all bytes go", 0, x.size(11));
        Check.feed(x, FIELD + BEAST + " odd");
        Check.due("what is behind n doesn't count", 1, x.war((FIELD + BEAST).length()), 0, x);
        Check.feed(x, FIELD + BEAST + "9");
        Check.due("a token is cut at n", 1, x.war((FIELD + BEAST).length()), 0, x);
        Check.due("price is cut at n", 5, x.beast(0, 3));
    }

    private static void forms() {
        Check.fine(FIELD + BEAST, 1);
        Check.fine("  field   lanes 3 deep 2  ;  beast e plain in 0 mood 5 price 5  ", 1);
        Check.fine("field lanes3deep2;beast e plain in0mood5price5", 1);
        Check.fine("field lanes 003 deep 02;beast e plain in 00 mood 005 price 005", 1);
        Check.fine(FIELD + ";beast in plain in 0 mood 5 price 5;city mood;city price;turned in", 1);
        Check.fine(FIELD + ";beast abcdefgh calf in 0 mood 5 price 5", 1);
        Check.faultyAtEnd("", 1);
        Check.faultyAtEnd("    ", 1);
        Check.faulty(";", 1, 0);
        Check.faulty("Field", 1, 0);
        Check.faulty("fields", 1, 0);
        Check.faulty("3", 1, 0);
        Check.faulty("odd", 1, 0);
        Check.faultyAtEnd("field", 1);
        Check.faultyAtEnd("field  ", 1);
        Check.faultyAtLast("field ", "deep", 1);
        Check.faultyAtLast("field ", "3", 1);
        Check.faultyAtEnd("field lanes", 1);
        Check.faultyAtLast("field lanes ", "three", 1);
        Check.faultyAtEnd("field lanes 3", 1);
        Check.faultyAtLast("field lanes 3 ", "2", 1);
        Check.faultyAtEnd("field lanes 3 deep", 1);
        Check.faultyAtLast("field lanes 3 deep ", ";", 1);
        Check.faultyAtEnd(FIELD + ";", 1);
        Check.faultyAtLast(FIELD + ";", ";", 1);
        Check.faultyAtLast(FIELD + " ", "beast", 1);
        Check.faultyAtLast(FIELD + " ", "5", 1);
        Check.faultyAtLast(FIELD + ";", "odd", 1);
        Check.faultyAtLast(FIELD + ";", "5", 1);
        Check.faultyAtEnd(FIELD + ";lane", 1);
        Check.faultyAtLast(FIELD + ";lane ", "a", 1);
        Check.faultyAtEnd(FIELD + ";lane 0", 1);
        Check.faulty(FIELD + ";lane 0 open5", 1, FIELD.length() + 12);
        Check.faultyAtLast(FIELD + ";lane 0 ", "pig", 1);
        Check.faultyAtLast(FIELD + ";lane 0 ", "5", 1);
        Check.faultyAtEnd(FIELD + ";lane 0 foot", 1);
        Check.faultyAtLast(FIELD + ";lane 0 foot ", "x", 1);
        Check.faultyAtLast(FIELD + ";lane 0 horse ", ";", 1);
        Check.faultyAtLast(FIELD + ";lane 0 pigs ", "5", 1);
        Check.faultyAtEnd(FIELD + ";beast", 1);
        Check.faultyAtLast(FIELD + ";beast ", "7", 1);
        Check.faultyAtEnd(FIELD + ";beast e", 1);
        Check.faultyAtLast(FIELD + ";beast e ", "in", 1);
        Check.faultyAtLast(FIELD + ";beast e plain ", "mood", 1);
        Check.faultyAtLast(FIELD + ";beast e plain in ", "e", 1);
        Check.faultyAtLast(FIELD + ";beast e plain in 0 ", "price", 1);
        Check.faultyAtLast(FIELD + ";beast e plain in 0 mood ", ";", 1);
        Check.faultyAtLast(FIELD + ";beast e plain in 0 mood 5 ", "in", 1);
        Check.faultyAtLast(FIELD + ";beast e plain in 0 mood 5 price ", "e", 1);
        Check.faultyAtLast(FIELD + BEAST + " ", "plain", 1);
        Check.faultyAtLast(FIELD + BEAST + ";city ", "5", 1);
        Check.faultyAtEnd(FIELD + BEAST + ";city", 1);
        Check.faultyAtLast(FIELD + BEAST + ";city a ", "b", 1);
        Check.faultyAtEnd(FIELD + BEAST + CITIES + ";pass", 1);
        Check.faultyAtEnd(FIELD + BEAST + CITIES + ";pass a", 1);
        Check.faultyAtEnd(FIELD + BEAST + CITIES + ";pass a b", 1);
        Check.faultyAtEnd(FIELD + BEAST + CITIES + ";pass a b loses", 1);
        Check.faultyAtLast(FIELD + BEAST + CITIES + ";pass a b ", "50", 1);
        Check.faultyAtLast(FIELD + BEAST + CITIES + ";pass a b ", "lose", 1);
        Check.faultyAtLast(FIELD + BEAST + CITIES + ";pass a b loses ", "c", 1);
        Check.faultyAtEnd(FIELD + BEAST + ";turned", 1);
        Check.faultyAtLast(FIELD + BEAST + ";turned ", "5", 1);
        Check.faultyAtLast(FIELD + BEAST + ";turned e ", "e", 1);
        for (String odd : new String[] {"\n", "\t", ".", ",", "A", "Z", "`", "{", "/", ":", "\u0080", "\u00e9", "\u00ff", "\u0000", "\u001f"}) {
            Check.faultyAtLast(FIELD, odd, 1);
            Check.faultyAtLast(FIELD + ";beast ", odd, 1);
            Check.faultyAtLast(FIELD + ";lane ", odd, 1);
        }
        Check.faultyAtLast(FIELD + ";beast ", "abcdefghi", 1);
        Check.faultyAtLast("field lanes ", "0003", 1);
        Check.faultyAtLast("field lanes ", "1000", 1);
        Check.faulty("fieldlanes 3", 1, 0);
    }

    private static void names() {
        for (String word : new String[] {"field", "lane", "beast", "city", "pass", "turned"}) {
            Check.faultyAtLast(FIELD + ";beast ", word, 1);
            Check.faultyAtLast(FIELD + ";city ", word, 1);
            Check.faultyAtLast(FIELD + BEAST + ";turned ", word, 1);
            Check.faultyAtLast(FIELD + CITIES + ";pass ", word, 1);
            Check.faultyAtLast(FIELD + CITIES + ";pass a ", word, 1);
        }
        Check.faultyAtLast(FIELD + ";turned ", "e", 2);
        Check.faultyAtLast(FIELD + BEAST + ";turned ", "ee", 2);
        Check.faultyAtLast(FIELD + BEAST + CITIES + ";turned ", "a", 2);
        Check.faultyAtLast(FIELD + BEAST + CITIES + ";pass ", "e", 2);
        Check.faultyAtLast(FIELD + BEAST + CITIES + ";pass ", "z", 2);
        Check.faultyAtLast(FIELD + BEAST + CITIES + ";pass a ", "e", 2);
        Check.faultyAtLast(FIELD + BEAST + CITIES + ";pass a ", "aa", 2);
        Check.fine(FIELD + BEAST + ";turned e", 1);
        Check.fine(FIELD + BEAST + CITIES + ";pass a b loses 0;pass b c loses 99", 1);
    }

    private static void bounds() {
        Check.faultyAtLast("field lanes ", "1", 4);
        Check.faultyAtLast("field lanes ", "7", 4);
        Check.faultyAtLast("field lanes 2 deep ", "0", 4);
        Check.faultyAtLast("field lanes 2 deep ", "6", 4);
        for (int lanes = 2; lanes <= 6; lanes++) {
            Check.fine("field lanes " + lanes + " deep 1" + BEAST, 1);
            Check.fine("field lanes " + lanes + " deep 5;beast e plain in " + (lanes - 1) + " mood 0 price 1", 1);
            Check.faultyAtLast("field lanes " + lanes + " deep 5;beast e plain in ", "" + lanes, 4);
            Check.fine("field lanes " + lanes + " deep 5;lane " + (lanes - 1) + " pigs" + BEAST, 1);
            Check.faultyAtLast("field lanes " + lanes + " deep 5;lane ", "" + lanes, 4);
        }
        Check.fine(FIELD + ";lane 0 foot 0;lane 1 foot 60;lane 2 horse 0" + BEAST, 1);
        Check.fine(FIELD + ";lane 2 horse 30" + BEAST, 1);
        Check.faultyAtLast(FIELD + ";lane 0 foot ", "61", 4);
        Check.faultyAtLast(FIELD + ";lane 0 horse ", "31", 4);
        Check.fine(FIELD + ";beast e plain in 0 mood 100 price 99", 1);
        Check.faultyAtLast(FIELD + ";beast e plain in 0 mood ", "101", 4);
        Check.faultyAtLast(FIELD + ";beast e plain in 0 mood 5 price ", "0", 4);
        Check.faultyAtLast(FIELD + ";beast e plain in 0 mood 5 price ", "100", 4);
        Check.faultyAtLast(FIELD + BEAST + CITIES + ";pass a b loses ", "100", 4);
    }

    private static void toldAgain() {
        Check.faultyAtLast(FIELD + BEAST + ";beast ", "e", 3);
        Check.faultyAtLast(FIELD + BEAST + ";city ", "e", 3);
        Check.faultyAtLast(FIELD + ";city a;beast ", "a", 3);
        Check.faultyAtLast(FIELD + ";city a;city ", "a", 3);
        Check.faultyAtLast(FIELD + ";lane 1 open;lane ", "1", 3);
        Check.faultyAtLast(FIELD + ";lane 0 open;lane 1 open;lane 2 open;lane ", "1", 3);
        Check.faultyAtLast(FIELD + CITIES + ";pass a ", "a", 3);
        Check.faultyAtLast(FIELD + CITIES + ";pass a b loses 1;pass a ", "b", 3);
        Check.faultyAtLast(FIELD + CITIES + ";pass a b loses 0;pass b ", "a", 3);
        Check.faultyAtLast(FIELD + BEAST + ";turned e;turned ", "e", 3);
        Check.faultyAtLast(FIELD + ";", "field", 3);
        Check.faultyAtLast(FIELD + BEAST + ";", "field", 3);
    }

    private static void many() {
        StringBuilder beasts = new StringBuilder(FIELD);
        for (char c = 'p'; c < 'u'; c++) {
            beasts.append(";beast ").append(c).append(" calf in 1 mood 9 price 9");
        }
        Check.fine(beasts.toString(), 5);
        Check.faultyAtLast(beasts + ";", "beast", 5);
        Check.faultyAtLast(beasts + CITIES + ";", "city", 5);
        String passes = beasts + CITIES + ";pass a b loses 1;pass a c loses 1;pass a d loses 1;pass a f loses 1"
            + ";pass a g loses 1;pass b c loses 1;pass b d loses 1;pass b f loses 1;pass b g loses 1";
        Check.fine(passes, 5);
        Check.faultyAtLast(passes + ";", "pass", 5);
        Check.fine(passes + ";turned p;turned q;turned r;turned s;turned t", 5);
    }

    private static void lacks() {
        for (String word : new String[] {"lane", "beast", "city", "pass", "turned"}) {
            Check.faultyAtLast("", word, 6);
            Check.faultyAtLast("  ", word, 6);
        }
        Check.faultyAtEnd(FIELD, 6);
        Check.faultyAtEnd(FIELD + "  ", 6);
        Check.faultyAtEnd(FIELD + ";lane 0 pigs" + CITIES, 6);
        Check.faultyAtEnd(FIELD + CITIES + ";", 1);
    }

    private static void order() {
        Check.faulty("field lanes 9 deep 9;odd", 4, 12);
        Check.faulty("field lanes 3 deep 9 .", 4, 19);
        Check.faulty(FIELD + ";lane 0 foot 99 ;beast beast", 4, 33);
        Check.faulty(FIELD + ";turned x;lane 9", 2, 28);
    }

    private static void warStays() {
        ElephantLine x = Check.told(FIELD + ";lane 1 foot 9" + BEAST + CITIES + ";pass a b loses 5;turned e");
        x.wound(0, 3);
        x.mark();
        x.seed(77);
        x.rain(true);
        Check.due("faulty war", -1, Check.tell(x, "field lanes 6 deep 5;lane 0 pigs;city zz;beast q drunk in 4 mood 9"), 4, x);
        Check.due("lanes stay", 3, x.size(0));
        Check.due("deep stays", 2, x.size(1));
        Check.due("lanes told stay", 1, x.size(2));
        Check.due("beasts stay", 1, x.size(3));
        Check.due("cities stay", 6, x.size(4));
        Check.due("passes stay", 1, x.size(5));
        Check.due("turned stay", 1, x.size(6));
        Check.due("rain stays", 1, x.size(7));
        Check.due("seed stays", 77, x.size(8));
        Check.due("acts stay", 2, x.size(9));
        Check.due("marks stay", 1, x.size(10));
        Check.due("wounds stay", 3, x.beast(0, 6));
        Check.due("who stays", 2, x.lane(1, 0));
        x.hammer(0);
        Check.due("new war", 2, Check.tell(x, "field lanes 6 deep 5;beast q drunk in 4 mood 9 price 9;beast r calf in 5 mood 8 price 7"), 0, x);
        int[] want = {6, 5, 0, 2, 0, 0, 0, 0, 0, 0, 0, 0};
        for (int what = 0; what < want.length; what++) {
            Check.due("new war's size " + what, want[what], x.size(what));
        }
        Check.due("no wounds", 0, x.beast(0, 6));
        Check.due("not dead", 0, x.beast(0, 7));
        Check.due("lane open", 0, x.lane(1, 0));
        Check.due("lane has none strong", 0, x.lane(1, 1));
        Check.due("nothing to undo", false, x.undo(), 6, x);
        Check.due("no marks", false, x.back(0), 1, x);
        Check.due("no city", -1, x.reach(0), 1, x);
        Check.due("fault is none", 0, x.fault());
    }

    private static void whereIsForgotten() {
        ElephantLine x = new ElephantLine();
        Check.tell(x, "field lanes 9");
        Check.due("where", 12, x.where());
        Check.feed(x, FIELD);
        Check.due("feed isn't refused by a number", 12, x.where());
        Check.due("size isn't refused", 1, x.size(0) + 1);
        Check.due("where behind size", 12, x.where());
        Check.due("trouble stays", 4, x.trouble());
        Check.due("undo", false, x.undo(), 6, x);
        Check.due("where behind undo", -1, x.where());
        Check.due("fault behind undo", 4, x.fault());
    }
}
