import java.util.List;

/** Terms I, promises 1 to 5: each sentence that names an edge, by a test of its own. */
public final class TextEdgesTest {
    private static final int TERMS = Edges.TERMS;
    private static final String FIELD = "field lanes 3 deep 2";
    private static final String BEAST = ";beast e plain in 0 mood 5 price 5";
    private static final String CITIES = ";city a;city b;city c;city d;city f;city g";
    private static final String NINE = ";pass a b loses 1;pass a c loses 1;pass a d loses 1;pass a f loses 1"
        + ";pass a g loses 1;pass b c loses 1;pass b d loses 1;pass b f loses 1;pass b g loses 1";
    private static final String[] LINE_WORDS = {"field", "lane", "beast", "city", "pass", "turned"};

    public static void main(String[] args) {
        tokens();
        lines();
        beastsAndCities();
        names();
        order();
        form();
        faults();
        many();
        lacks();
        newObject();
        feed();
        war();
        fault();
        where();
        Edges.haveAll(0, 5);
        Check.end("TextEdgesTest");
    }

    private static String beasts(int many) {
        StringBuilder s = new StringBuilder();
        for (int b = 0; b < many; b++) {
            s.append(";beast ").append((char) ('p' + b)).append(" calf in 1 mood 9 price 9");
        }
        return s.toString();
    }

    private static void tokens() {
        Edges.sentence(TERMS, "THE TAPE has 900 bytes", () -> {
            String last = " ".repeat(900 - (FIELD + BEAST).length()) + FIELD + BEAST;
            Check.fine(last, 1);
            ElephantLine x = new ElephantLine();
            Check.due("all are fed", 900, Check.feed(x, last));
            Check.due("the last is cut off", -1, x.war(899), 4, x);
            Check.due("its place", 899, x.where());
        });
        Edges.sentence(TERMS, "blanks, 32, part TOKENS and mean nothing else", () -> {
            ElephantLine x = Check.fine("  field  lanes 3   deep 2 ;  beast e plain in 0  mood 5 price 5   ", 1);
            Edges.same("as without them", Edges.state(Check.told(FIELD + BEAST)), Edges.state(x));
            Check.fine("field lanes3deep2;beast e plain in0mood5price5", 1);
            Check.faulty("fie ld", 1, 0);
            Check.faulty("field lanes 3 deep 2;beast e plain in 0 mood 1 0 price 5", 1, 47);
            for (char other : new char[] {0, 9, 10, 13, 31, 33, 95, 127, 160}) {
                Check.faulty(other + FIELD + BEAST, 1, 0);
                Check.faulty(FIELD + other + BEAST, 1, 20);
                Check.faulty(FIELD + BEAST + other, 1, 54);
            }
        });
        Edges.sentence(TERMS, "WORDS of 1 to 8 small letters that stand together", () -> {
            Check.fine(FIELD + ";beast a plain in 0 mood 5 price 5;beast z plain in 0 mood 5 price 5", 2);
            Check.fine(FIELD + ";beast azazazaz plain in 0 mood 5 price 5", 1);
            Check.faultyAtLast(FIELD + ";beast ", "azazazaza", 1);
            Check.fine(FIELD + ";city abcdefgh;city abcdefgi;city abcdefg;city bbcdefgh" + BEAST, 1);
            for (char other : new char[] {'A', 'Z', '`', '{', 225}) {
                Check.faulty(FIELD + ";beast a" + other, 1, 28);
                Check.faulty(FIELD + ";beast " + other, 1, 27);
            }
        });
        Edges.sentence(TERMS, "WHOLES of 1 to 3 digits that do", () -> {
            Check.fine("field lanes 3 deep 02;beast e plain in 000 mood 099 price 09", 1);
            Check.due("099 is 99", 99, Check.told(FIELD + ";beast e plain in 0 mood 099 price 5").beast(0, 2));
            Check.faultyAtLast("field lanes ", "0003", 1);
            Check.faultyAtLast("field lanes ", "1000", 1);
            Check.faulty("field lanes 3/", 1, 13);
            Check.faulty("field lanes 3:", 1, 13);
            Check.faulty("field lanes :", 1, 12);
            Check.faulty("field lanes -3", 1, 12);
        });
        Edges.sentence(TERMS, "single ones of ;", () -> {
            Check.fine(FIELD + " ; beast e plain in 0 mood 5 price 5", 1);
            Check.faulty(FIELD + ";" + BEAST, 1, 21);
            Check.faulty(FIELD + " ; " + BEAST, 1, 23);
        });
    }

    private static void lines() {
        Edges.sentence(TERMS, "LINE {; LINE}", () -> {
            Check.faultyAtEnd(FIELD, 6);
            Check.fine(FIELD + BEAST, 1);
            Check.faulty(";" + FIELD + BEAST, 1, 0);
            Check.faultyAtEnd(FIELD + BEAST + ";", 1);
            Check.faulty(FIELD + " beast e plain in 0 mood 5 price 5", 1, 21);
        });
        Edges.sentence(TERMS, "(2 .. 6; 1 .. 5 steps)", () -> {
            Check.due("two lanes", 2, Check.fine("field lanes 2 deep 1" + BEAST, 1).size(0));
            Check.due("six lanes", 6, Check.fine("field lanes 6 deep 1" + BEAST, 1).size(0));
            Check.due("one step", 1, Check.fine("field lanes 2 deep 1" + BEAST, 1).size(1));
            Check.due("five steps", 5, Check.fine("field lanes 2 deep 5" + BEAST, 1).size(1));
            Check.faultyAtLast("field lanes ", "1", 4);
            Check.faultyAtLast("field lanes ", "7", 4);
            Check.faultyAtLast("field lanes 2 deep ", "0", 4);
            Check.faultyAtLast("field lanes 2 deep ", "6", 4);
        });
        Edges.sentence(TERMS, "ahead of all others", () -> {
            Check.faulty("city a;" + FIELD + BEAST, 6, 0);
            Check.faulty("lane 0 open;" + FIELD + BEAST, 6, 0);
        });
        Edges.sentence(TERMS, "0 on, each once", () -> {
            Check.fine(FIELD + ";lane 2 pigs;lane 0 pigs;lane 1 pigs" + BEAST, 1);
            Check.faultyAtLast(FIELD + ";lane ", "3", 4);
            Check.faultyAtLast("field lanes 2 deep 2;lane ", "2", 4);
            Check.faultyAtLast(FIELD + ";lane 0 open;lane ", "0", 3);
            Check.faultyAtLast(FIELD + ";lane 2 open;lane 0 pigs;lane ", "2", 3);
        });
        Edges.sentence(TERMS, "WHO: open, or pigs, or foot WHOLE, or horse WHOLE", () -> {
            Check.faultyAtLast(FIELD + ";lane 0 open ", "0", 1);
            Check.faultyAtLast(FIELD + ";lane 0 pigs ", "0", 1);
            Check.faultyAtLast(FIELD + ";lane 0 foot ", ";", 1);
            Check.faultyAtEnd(FIELD + ";lane 0 horse", 1);
            Check.faultyAtLast(FIELD + ";lane 0 ", "plain", 1);
            Check.faultyAtEnd(FIELD + ";lane 0", 1);
        });
        Edges.sentence(TERMS, "0 .. 60 strong", () -> {
            Check.due("none", 0, Check.fine(FIELD + ";lane 0 foot 0" + BEAST, 1).lane(0, 1));
            Check.due("sixty", 60, Check.fine(FIELD + ";lane 0 foot 60" + BEAST, 1).lane(0, 1));
            Check.faultyAtLast(FIELD + ";lane 0 foot ", "61", 4);
        });
        Edges.sentence(TERMS, "0 .. 30 weeks taught", () -> {
            Check.due("none", 0, Check.fine(FIELD + ";lane 0 horse 0" + BEAST, 1).lane(0, 1));
            Check.due("thirty", 30, Check.fine(FIELD + ";lane 0 horse 30" + BEAST, 1).lane(0, 1));
            Check.faultyAtLast(FIELD + ";lane 0 horse ", "31", 4);
        });
        Edges.sentence(TERMS, "those not told: open", () -> {
            ElephantLine x = Check.told(FIELD + ";lane 0 foot 9;lane 2 horse 9" + BEAST);
            Check.due("not told", 0, x.lane(1, 0));
            Check.tell(x, FIELD + ";lane 1 pigs" + BEAST);
            Check.due("told by the WAR ahead", 0, x.lane(0, 0));
            Check.due("nobody is strong there", 0, x.lane(0, 1));
            Check.due("nobody is taught there", 0, x.lane(2, 1));
            Check.due("one is told", 1, x.size(2));
        });
    }

    private static void beastsAndCities() {
        Edges.sentence(TERMS, "(KIND: plain, calf, drunk, or mailed; a lane; 0 .. 100; 1 .. 99; up to 5)", () -> {
            Check.faultyAtLast(FIELD + ";beast e ", "open", 1);
            Check.faultyAtLast(FIELD + ";beast e ", "in", 1);
            Check.due("the last lane", 2, Check.fine(FIELD + ";beast e calf in 2 mood 0 price 1", 1).beast(0, 1));
            Check.faultyAtLast(FIELD + ";beast e calf in ", "3", 4);
            Check.due("mood 0", 0, Check.fine(FIELD + ";beast e calf in 2 mood 0 price 1", 1).beast(0, 2));
            Check.due("mood 100", 100, Check.fine(FIELD + ";beast e calf in 2 mood 100 price 1", 1).beast(0, 2));
            Check.faultyAtLast(FIELD + ";beast e calf in 0 mood ", "101", 4);
            Check.due("price 1", 1, Check.fine(FIELD + ";beast e calf in 2 mood 0 price 1", 1).beast(0, 3));
            Check.due("price 99", 99, Check.fine(FIELD + ";beast e calf in 2 mood 0 price 99", 1).beast(0, 3));
            Check.faultyAtLast(FIELD + ";beast e calf in 0 mood 0 price ", "0", 4);
            Check.faultyAtLast(FIELD + ";beast e calf in 0 mood 0 price ", "100", 4);
            Check.fine(FIELD + beasts(5), 5);
            Check.faultyAtLast(FIELD + beasts(5) + ";", "beast", 5);
        });
        Edges.sentence(TERMS, "city NAME (up to 6)", () -> {
            Check.due("none", 0, Check.fine(FIELD + BEAST, 1).size(4));
            Check.due("six", 6, Check.fine(FIELD + CITIES + BEAST, 1).size(4));
            Check.faultyAtLast(FIELD + CITIES + ";", "city", 5);
        });
        Edges.sentence(TERMS, "(unlike; once in whatever order; 0 .. 99 in a hundred; up to 9)", () -> {
            Check.faultyAtLast(FIELD + CITIES + ";pass b ", "b", 3);
            Check.faultyAtLast(FIELD + CITIES + ";pass g a loses 0;pass g ", "a", 3);
            Check.faultyAtLast(FIELD + CITIES + ";pass g a loses 0;pass a ", "g", 3);
            Check.fine(FIELD + BEAST + CITIES + ";pass a b loses 0", 1);
            Check.fine(FIELD + BEAST + CITIES + ";pass a b loses 99", 1);
            Check.faultyAtLast(FIELD + BEAST + CITIES + ";pass a b loses ", "100", 4);
            Check.due("nine", 9, Check.fine(FIELD + BEAST + CITIES + NINE, 1).size(5));
            Check.faultyAtLast(FIELD + BEAST + CITIES + NINE + ";", "pass", 5);
        });
        Edges.sentence(TERMS, "turned BEAST (once for each)", () -> {
            Check.due("none", 0, Check.fine(FIELD + BEAST, 1).size(6));
            String all = ";turned t;turned p;turned q;turned s;turned r";
            Check.due("all five", 5, Check.fine(FIELD + beasts(5) + all, 5).size(6));
            Check.faultyAtLast(FIELD + beasts(5) + all + ";turned ", "t", 3);
        });
    }

    private static void names() {
        Edges.sentence(TERMS, "NAMES are WORDS but field, lane, beast, city, pass, turned", () -> {
            for (String word : LINE_WORDS) {
                Check.faultyAtLast(FIELD + ";beast ", word, 1);
                Check.faultyAtLast(FIELD + ";city ", word, 1);
                Check.faultyAtLast(FIELD + CITIES + ";pass ", word, 1);
                Check.faultyAtLast(FIELD + CITIES + ";pass a ", word, 1);
                Check.faultyAtLast(FIELD + BEAST + ";turned ", word, 1);
            }
            for (String word : new String[] {"lanes", "deep", "open", "foot", "horse", "plain", "in", "mood", "price",
                "loses", "fiel", "fields", "turne", "beasts"}) {
                Check.fine(FIELD + ";beast " + word + " plain in 0 mood 5 price 5;turned " + word, 1);
                Check.fine(FIELD + BEAST + ";city a;city " + word + ";pass a " + word + " loses 1", 1);
            }
            Check.faultyAtLast(FIELD + ";beast ", "5", 1);
        });
        Edges.sentence(TERMS, "each told once, ahead of its use", () -> {
            Check.faultyAtLast(FIELD + BEAST + ";beast ", "e", 3);
            Check.faultyAtLast(FIELD + BEAST + ";city ", "e", 3);
            Check.faultyAtLast(FIELD + ";city e;beast ", "e", 3);
            Check.faultyAtLast(FIELD + ";city e;city ", "e", 3);
            Check.faulty(FIELD + ";turned e" + BEAST, 2, 28);
            Check.faulty(FIELD + ";city a;pass a b loses 1;city b", 2, 35);
        });
    }

    private static void order() {
        Edges.sentence(TERMS, "FAULTS, the first that is met from the left", () -> {
            Check.faulty("field lanes 9 deep 9;odd", 4, 12);
            Check.faulty("field lanes 3 deep 9 .", 4, 19);
            Check.faulty(FIELD + ";turned x;lane 9", 2, 28);
            Check.faulty(FIELD + BEAST + ";city e;" + FIELD, 3, 60);
            Check.faulty(FIELD + ";. lane 9", 1, 21);
            Check.faulty(FIELD + beasts(5) + ";beast p", 5, 20 + 5 * 33 + 1);
            Check.faulty("beast.", 6, 0);
        });
        Edges.sentence(TERMS, "of one place the least number", () -> {
            // At the end there is no beast either.
            Check.faultyAtEnd(FIELD + ";", 1);
            Check.faultyAtEnd(FIELD + ";city", 1);
            Check.faultyAtEnd("", 1);
            // Neither told nor another city than the first can be: a beast at the second city's place.
            Check.faultyAtLast(FIELD + BEAST + ";city a;pass a ", "e", 2);
            // A word that begins a LINE isn't told as a NAME either.
            Check.faultyAtLast(FIELD + BEAST + ";turned ", "turned", 1);
        });
    }

    /** In place of each TOKEN something that is none. */
    private static void inPlaceOfEach(String none) {
        String[] tokens = (FIELD + ";lane 0 foot 9" + BEAST + ";city a;city b;pass a b loses 5;turned e").replace(";", " ; ").split(" ");
        int place = 0;
        for (int i = 0; i < tokens.length; i++) {
            String[] other = tokens.clone();
            other[i] = none;
            Check.faulty(String.join(" ", other), 1, place);
            place += tokens[i].length() + 1;
        }
    }

    private static void form() {
        Edges.sentence(TERMS, "1 FORM: the first byte that begins no TOKEN", () -> {
            Check.faulty("field ?", 1, 6);
            Check.faulty("field? ?", 1, 5);
            Check.faulty(FIELD + ";beast e plain in 0 mood 5 price 5.", 1, 54);
            Check.faulty("field lanes 3 deep \u00ff", 1, 19);
            Check.faulty("field lanes 1234", 1, 12);
            Check.faulty("fieldfield", 1, 0);
            inPlaceOfEach("?");
            inPlaceOfEach("abcdefghi");
            inPlaceOfEach("1234");
        });
        Edges.sentence(TERMS, "or TOKEN with which no WAR goes on", () -> {
            Check.faulty("lanes 3", 1, 0);
            Check.faulty("7", 1, 0);
            Check.faultyAtLast("field ", "deep", 1);
            Check.faultyAtLast("field lanes ", "deep", 1);
            Check.faultyAtLast("field lanes 3 ", "lanes", 1);
            Check.faultyAtLast("field lanes 3 deep ", ";", 1);
            Check.faultyAtLast(FIELD + " ", "2", 1);
            Check.faultyAtLast(FIELD + ";", "foot", 1);
            Check.faultyAtLast(FIELD + ";lane ", "open", 1);
            Check.faultyAtLast(FIELD + ";lane 0 ", "0", 1);
            Check.faultyAtLast(FIELD + ";beast e ", "e", 1);
            Check.faultyAtLast(FIELD + ";beast e plain ", "on", 1);
            Check.faultyAtLast(FIELD + ";beast e plain in ", "lane", 1);
            Check.faultyAtLast(FIELD + ";beast e plain in 0 ", "0", 1);
            Check.faultyAtLast(FIELD + ";beast e plain in 0 mood ", "mood", 1);
            Check.faultyAtLast(FIELD + ";beast e plain in 0 mood 0 ", "cost", 1);
            Check.faultyAtLast(FIELD + ";beast e plain in 0 mood 0 price ", ";", 1);
            Check.faultyAtLast(FIELD + ";city a ", "a", 1);
            Check.faultyAtLast(FIELD + ";city a;city b;pass a b ", "b", 1);
            Check.faultyAtLast(FIELD + ";city a;city b;pass a b loses ", "loses", 1);
            Check.faultyAtLast(FIELD + BEAST + ";turned e ", "e", 1);
        });
        Edges.sentence(TERMS, "(the end: its place)", () -> {
            String text = FIELD + ";lane 0 foot 9" + BEAST + ";city a;city b;pass a b loses 5;turned e";
            for (int n = 0; n < text.length(); n++) {
                ElephantLine x = new ElephantLine();
                Check.feed(x, text);
                if (x.war(n) < 0 && text.charAt(n) == ' ') {
                    Check.due("where of " + text.substring(0, n), n, x.where());
                }
            }
            Check.faultyAtEnd("   ", 1);
            Check.faultyAtEnd("field lanes 3 deep   ", 1);
            Check.faultyAtEnd(FIELD + ";", 1);
        });
    }

    private static void faults() {
        Edges.sentence(TERMS, "2 a NAME that isn't told, or is of another sort than must stand there; at it", () -> {
            Check.faultyAtLast(FIELD + ";turned ", "e", 2);
            Check.faultyAtLast(FIELD + BEAST + ";turned ", "ee", 2);
            Check.faultyAtLast(FIELD + BEAST + CITIES + ";turned ", "a", 2);
            Check.faultyAtLast(FIELD + BEAST + CITIES + ";pass ", "e", 2);
            Check.faultyAtLast(FIELD + BEAST + CITIES + ";pass a ", "e", 2);
            Check.faultyAtLast(FIELD + BEAST + CITIES + ";pass ", "z", 2);
            Check.faultyAtLast(FIELD + BEAST + CITIES + ";pass a ", "z", 2);
        });
        Edges.sentence(TERMS, "3 a NAME told again; at it", () -> {
            Check.faultyAtLast(FIELD + BEAST + ";city a;beast ", "e", 3);
            Check.faultyAtLast(FIELD + BEAST + ";city a;city ", "e", 3);
            Check.faultyAtLast(FIELD + BEAST + ";city a;beast ", "a", 3);
            Check.faultyAtLast(FIELD + BEAST + ";city a;city ", "a", 3);
            ElephantLine x = Check.told(FIELD + BEAST + CITIES);
            Check.due("names of the WAR ahead are free", 1, Check.tell(x, FIELD + ";beast a plain in 0 mood 5 price 5;city e"), 0, x);
        });
        Edges.sentence(TERMS, "a lane told already; at its WHOLE", () -> {
            Check.faultyAtLast(FIELD + ";lane 1 open;lane ", "1", 3);
            Check.faultyAtLast(FIELD + ";lane 1 open;lane ", "001", 3);
            Check.faultyAtLast(FIELD + ";lane 0 open;lane 1 open;lane 2 open;lane ", "0", 3);
        });
        Edges.sentence(TERMS, "a second CITY that is the first, or to which there is a pass already; at it", () -> {
            Check.faultyAtLast(FIELD + CITIES + ";pass a ", "a", 3);
            Check.faultyAtLast(FIELD + CITIES + ";pass a b loses 0;pass a ", "b", 3);
            Check.faultyAtLast(FIELD + CITIES + ";pass a b loses 0;pass b ", "a", 3);
            Check.fine(FIELD + BEAST + CITIES + ";pass a b loses 0;pass b c loses 0;pass c a loses 0", 1);
        });
        Edges.sentence(TERMS, "a BEAST that turned already; at it", () -> {
            Check.faultyAtLast(FIELD + BEAST + ";turned e;turned ", "e", 3);
            Check.faultyAtLast(FIELD + beasts(2) + ";turned q;turned p;turned ", "q", 3);
        });
        Edges.sentence(TERMS, "a second field: at that WORD", () -> {
            Check.faultyAtLast(FIELD + ";", "field", 3);
            Check.faultyAtLast(FIELD + BEAST + " ; ", "field", 3);
        });
        Edges.sentence(TERMS, "4 a WHOLE out of bounds; at it", () -> {
            Check.faultyAtLast("field lanes ", "0", 4);
            Check.faultyAtLast("field lanes ", "999", 4);
            Check.faultyAtLast("field lanes 3 deep ", "999", 4);
            Check.faultyAtLast(FIELD + ";lane ", "999", 4);
            Check.faultyAtLast(FIELD + ";lane 0 foot ", "999", 4);
            Check.faultyAtLast(FIELD + ";lane 0 horse ", "999", 4);
            Check.faultyAtLast(FIELD + ";beast e plain in ", "999", 4);
            Check.faultyAtLast(FIELD + ";beast e plain in 0 mood ", "999", 4);
            Check.faultyAtLast(FIELD + ";beast e plain in 0 mood 0 price ", "999", 4);
            Check.faultyAtLast(FIELD + CITIES + ";pass a b loses ", "999", 4);
        });
    }

    private static void many() {
        Edges.sentence(TERMS, "5 MANY: a LINE more of its sort than there is room for, at its first WORD", () -> {
            String full = FIELD + beasts(5) + CITIES + NINE;
            Check.fine(full, 5);
            Check.faultyAtLast(full + ";", "beast", 5);
            Check.faultyAtLast(full + ";", "city", 5);
            Check.faultyAtLast(full + "; ", "pass", 5);
            Check.faulty(full + ";beast p", 5, full.length() + 1);
            Check.faulty(full + ";city 7", 5, full.length() + 1);
            Check.faulty(full + ";pass a a", 5, full.length() + 1);
            ElephantLine x = Check.told(full);
            Check.due("room anew by the next WAR", 5, Check.tell(x, full), 0, x);
        });
    }

    private static void lacks() {
        Edges.sentence(TERMS, "6 LACKS: any LINE ahead of the field; at its WORD", () -> {
            for (int i = 1; i < LINE_WORDS.length; i++) {
                Check.faultyAtLast("", LINE_WORDS[i], 6);
                Check.faultyAtLast("   ", LINE_WORDS[i], 6);
            }
        });
        Edges.sentence(TERMS, "at the end: no beast", () -> {
            Check.faultyAtEnd(FIELD, 6);
            Check.faultyAtEnd(FIELD + "   ", 6);
            Check.faultyAtEnd(FIELD + ";lane 0 pigs" + CITIES + NINE, 6);
        });
    }

    private static void newObject() {
        Edges.sentence(1, "No WAR.", () -> {
            ElephantLine x = new ElephantLine();
            for (int what = 0; what <= 11; what++) {
                Check.due("size " + what, 0, x.size(what));
            }
            Check.due("trouble", 0, x.trouble());
            Check.due("fault", 0, x.fault());
            Check.due("where", -1, x.where());
            Check.due("lane", -1, x.lane(0, 0), 1, x);
            Check.due("beast", -1, x.beast(0, 0), 1, x);
            Check.due("reach", -1, x.reach(0), 1, x);
            Check.due("worst", -1, x.worst(), 1, x);
            Check.dueThrow("led", x, 0);
        });
    }

    private static void feed() {
        Edges.sentence(2, "Twenty bytes come behind THE TAPE, of each number the highest first", () -> {
            ElephantLine x = new ElephantLine();
            x.feed(0x6669656c, 0x64206c61, 0x6e657320, 0x32206465, 0x65702031);
            x.feed(0x3b626561, 0x7374206d, 0x206d6169, 0x6c656420, 0x696e2031);
            x.feed(0x206d6f6f, 0x64203531, 0x20707269, 0x63652039, 0x20202020);
            Check.due("war", 1, x.war(56), 0, x);
            Check.due("mood", 51, x.beast(0, 2));
            x.feed(0x20202020, 0x20202020, 0x20202020, 0x20202020, 0xffffffff);
            Check.due("bytes above 127", -1, x.war(20), 4, x);
            Check.due("the first of them", 16, x.where());
            x.feed(0x20202020, 0x20202020, 0x20202020, 0x20202020, 0x202020ff);
            Check.due("the lowest byte", -1, x.war(20), 4, x);
            Check.due("it is the last", 19, x.where());
        });
        Edges.sentence(2, "how many it has", () -> {
            ElephantLine x = new ElephantLine();
            for (int i = 1; i <= 45; i++) {
                Check.due("feed " + i, 20 * i, x.feed(i, -i, i, -i, i));
                Check.due("size", 20 * i, x.size(11));
            }
            x.war(0);
            Check.due("behind war()", 20, x.feed(0, 0, 0, 0, 0));
        });
        Edges.sentence(2, "NONE, and none comes, if there would be more than 900", () -> {
            ElephantLine x = new ElephantLine();
            String text = " ".repeat(900 - (FIELD + BEAST).length()) + FIELD + BEAST;
            Check.due("full", 900, Check.feed(x, text));
            Check.due("more", ElephantLine.NONE, x.feed(0, 0, 0, 0, 0));
            Check.due("yet more", ElephantLine.NONE, x.feed(-1, -1, -1, -1, -1));
            Check.due("none came", 900, x.size(11));
            Check.due("no number is told for it", 0, x.trouble());
            Check.due("nothing is written over", 1, x.war(900), 0, x);
            Check.due("room again", 20, x.feed(0, 0, 0, 0, 0));
        });
    }

    private static void war() {
        Edges.sentence(3, "The first n bytes of THE TAPE (it is empty then)", () -> {
            ElephantLine x = new ElephantLine();
            Check.feed(x, FIELD + BEAST + "9;odd");
            Check.due("n bytes", 1, x.war(54), 0, x);
            Check.due("a WHOLE is cut", 5, x.beast(0, 3));
            Check.due("empty", 0, x.size(11));
            Check.feed(x, FIELD + BEAST);
            Check.due("a fault", -1, x.war(3), 4, x);
            Check.due("empty behind a fault, too", 0, x.size(11));
            Check.due("no byte is left", -1, x.war(1), 2, x);
            Check.due("none of an empty one", -1, x.war(0), 4, x);
        });
        Edges.sentence(3, "are the WAR from now on (SEED 0, no WOUNDS, no RAIN; nothing to undo, no MARKS)", () -> {
            ElephantLine x = Check.told(Edges.WAR);
            x.seed(7);
            x.wound(0, 3);
            x.rain(true);
            x.hammer(1);
            x.move(2, 3);
            x.teach(1, 9);
            x.mark();
            Check.due("war", 3, Check.tell(x, Edges.WAR), 0, x);
            Edges.same("as of a new object", Edges.state(Check.told(Edges.WAR)), Edges.state(x));
            Check.due("undo", false, x.undo(), 6, x);
            Check.due("back", false, x.back(0), 1, x);
            Check.due("the first mark again", 0, x.mark(), 0, x);
        });
        Edges.sentence(3, "are the WAR from now on", () -> {
            StringBuilder large = new StringBuilder("field lanes 6 deep 5");
            for (int i = 0; i < 6; i++) {
                large.append(";lane ").append(i).append(" horse 0");
                large.append(i < 5 ? ";beast " + (char) ('p' + i) + " drunk in " + i % 2 + " mood 100 price 99;turned " + (char) ('p' + i) : "");
            }
            for (String small : new String[] {"field lanes 2 deep 1;beast p plain in 0 mood 90 price 5;city a;city b",
                "field lanes 3 deep 1;lane 0 pigs;lane 1 pigs;lane 2 horse 20;beast p plain in 2 mood 60 price 5;turned p",
                "field lanes 2 deep 2;lane 0 foot 9;lane 1 horse 9;beast p calf in 1 mood 9 price 5;beast q mailed in 0 mood 60 price 5"}) {
                ElephantLine x = Check.told(large + CITIES + NINE);
                Edges.looks(x);
                Check.tell(x, small);
                Edges.same("nothing is left of the WAR ahead", Edges.looks(Check.told(small)), Edges.looks(x));
            }
        });
        Edges.sentence(3, "how many beasts", () -> {
            for (int many = 1; many <= 5; many++) {
                ElephantLine x = new ElephantLine();
                Check.due("war of " + many, many, Check.tell(x, FIELD + beasts(many)), 0, x);
            }
        });
        Edges.sentence(3, "2 (THE TAPE stays)", () -> {
            ElephantLine x = new ElephantLine();
            Check.feed(x, FIELD + BEAST);
            for (int n : new int[] {-1, 61, 900, 901, Integer.MIN_VALUE, Integer.MAX_VALUE}) {
                Edges.refused("war " + n, x, 2, -1, () -> x.war(n));
                Check.due("the tape has", 60, x.size(11));
            }
            Check.due("all that it has", 1, x.war(60), 0, x);
        });
        Edges.sentence(3, "4 (the WAR stays)", () -> {
            ElephantLine x = Check.told(Edges.WAR);
            x.wound(0, 3);
            x.rain(true);
            x.seed(9);
            x.mark();
            List<Integer> before = Edges.state(x);
            for (String text : new String[] {"", "field lanes 2 deep 1", FIELD + BEAST + ";", FIELD + BEAST + CITIES + ";turned a",
                "field lanes 6 deep 5;lane 0 pigs;beast q drunk in 4 mood 9 price 0"}) {
                Check.due("war of " + text, -1, Check.tell(x, text), 4, x);
                Edges.same("all", before, Edges.state(x));
            }
            Check.due("march", 72, x.march(0, 1, 100), 0, x);
            Check.due("turned", 2, x.turnedBy(0));
            Check.due("undo", true, x.undo(), 0, x);
            Check.due("back", true, x.back(0), 0, x);
            Edges.same("by the mark", before.subList(12, before.size()), Edges.state(x).subList(12, before.size()));
        });
    }

    private static void fault() {
        Edges.sentence(4, "The FAULT of the latest war() not refused by 2", () -> {
            ElephantLine x = new ElephantLine();
            Check.tell(x, "field lanes 9");
            Check.due("out of bounds", 4, x.fault());
            x.war(1);
            Check.due("behind 2", 4, x.fault());
            x.undo();
            x.lane(0, 0);
            Check.due("behind other calls", 4, x.fault());
            Check.tell(x, "lane");
            Check.due("the latest", 6, x.fault());
        });
        Edges.sentence(4, "0 without one", () -> {
            ElephantLine x = new ElephantLine();
            Check.due("new", 0, x.fault());
            x.war(1);
            Check.due("only refused by 2", 0, x.fault());
            Check.tell(x, "field lanes 9");
            Check.tell(x, FIELD + BEAST);
            Check.due("fine", 0, x.fault());
        });
    }

    private static void where() {
        Edges.sentence(5, "Its place, if the latest call that may be refused was by 4", () -> {
            ElephantLine x = new ElephantLine();
            Check.tell(x, "field lanes 9");
            Check.due("where", 12, x.where());
            x.feed(0, 0, 0, 0, 0);
            x.fault();
            x.trouble();
            x.size(99);
            Check.dueThrow("led", x, 0);
            Check.due("behind calls without a number", 12, x.where());
        });
        Edges.sentence(5, "NONE else", () -> {
            ElephantLine x = new ElephantLine();
            Check.due("new", -1, x.where());
            Check.tell(x, "field lanes 9");
            x.undo();
            Check.due("behind one refused by 6", -1, x.where());
            Check.tell(x, "field lanes 9");
            x.war(1);
            Check.due("behind one refused by 2", -1, x.where());
            Check.tell(x, FIELD + BEAST);
            Check.due("behind one that is fine", -1, x.where());
            Check.tell(x, "field lanes 9");
            x.lane(0, 0);
            Check.due("behind another that is fine", -1, x.where());
        });
    }
}
