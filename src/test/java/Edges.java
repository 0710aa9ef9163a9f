import java.io.IOException;
import java.io.UncheckedIOException;
import java.nio.file.Files;
import java.nio.file.Path;
import java.util.ArrayList;
import java.util.List;
import java.util.Set;
import java.util.TreeSet;
import java.util.function.LongSupplier;
import java.util.function.ToLongFunction;

/** Sentences of the document that name an edge, each with what would be answered otherwise if it were broken. */
final class Edges {
    /** In place of a promise's number. */
    static final int ABOUT = -1;
    static final int TERMS = 0;
    static final long LEAST = Long.MIN_VALUE;
    static final String WAR = "field lanes 4 deep 2;lane 0 foot 12;lane 1 horse 3;lane 2 pigs"
        + ";beast e plain in 0 mood 80 price 40;beast c calf in 1 mood 60 price 10"
        + ";beast d drunk in 2 mood 25 price 50;city a;city b;city x;pass a b loses 50;pass a x loses 10"
        + ";pass x b loses 20;turned c";
    /** Numbers of no lane of four, of none of three beasts, of none of three cities. */
    static final int[] NO_LANES = {-1, 4, 6, 32, Integer.MIN_VALUE, Integer.MAX_VALUE};
    static final int[] NO_BEASTS = {-1, 3, 5, 32, Integer.MIN_VALUE, Integer.MAX_VALUE};
    static final int[] NO_CITIES = {-1, 3, 6, 32, Integer.MIN_VALUE, Integer.MAX_VALUE};

    private static final Path DOCUMENT = Path.of("../shared/DOC.md");
    private static final Set<Integer> SAID = new TreeSet<>();

    /** A call with one number that is looked at. */
    interface Call {
        long of(ElephantLine x, int n);
    }

    private Edges() {
    }

    /** The quote must stand in the promise, so that no test outlives its sentence. */
    static void sentence(int promise, String quote, Runnable answers) {
        String place = promise == ABOUT ? "What it is" : promise == TERMS ? "Terms" : "Promise " + promise;
        Check.under(place + ", \"" + quote + "\": ");
        Check.due("the document", true, section(place).contains(quote));
        int before = Check.asked();
        answers.run();
        Check.due("a test", true, Check.asked() > before);
        Check.under("");
        SAID.add(promise);
    }

    private static String section(String title) {
        try {
            for (String part : Files.readString(DOCUMENT).split("(?m)^## ")) {
                if (part.startsWith(title + "\n") || part.startsWith(title + ":")) {
                    return part;
                }
            }
        } catch (IOException e) {
            throw new UncheckedIOException(e);
        }
        return "";
    }

    static void haveAll(int first, int last) {
        for (int promise = first; promise <= last; promise++) {
            Check.due("a sentence of promise " + promise, true, SAID.contains(promise));
        }
    }

    static long of(boolean is) {
        return is ? 1 : 0;
    }

    /** All that can be told of what is kept. */
    static List<Integer> state(ElephantLine x) {
        List<Integer> all = new ArrayList<>();
        for (int what = 0; what <= 11; what++) {
            all.add(x.size(what));
        }
        for (int l = 0; l < x.size(0); l++) {
            for (int what = 0; what <= 2; what++) {
                all.add(x.lane(l, what));
            }
        }
        for (int b = 0; b < x.size(3); b++) {
            for (int what = 0; what <= 7; what++) {
                all.add(x.beast(b, what));
            }
        }
        return all;
    }

    /** All answers of looks at beasts, lanes and cities, and at one of each more than there are. */
    static List<Long> looks(ElephantLine x) {
        List<Long> all = new ArrayList<>();
        for (int b = 0; b <= x.size(3); b++) {
            all.addAll(List.of((long) x.beast(b, 1), x.across(b, false), x.across(b, true), (long) x.bestLane(b), (long) x.place(b)));
            all.addAll(List.of((long) x.rests(b), (long) x.rest(b), (long) x.turnedBy(b), (long) x.acrossIn(b, 5, 9)));
            for (int l = 0; l <= x.size(0); l++) {
                all.addAll(List.of((long) x.meets(b, l, false), (long) x.meets(b, l, true), x.worth(b, l, false), (long) x.moodFor(b, l)));
            }
        }
        for (int l = 0; l <= x.size(0); l++) {
            all.addAll(List.of((long) x.lane(l, 0), (long) x.lane(l, 1), (long) x.lane(l, 2), (long) x.weeks(l)));
        }
        for (int from = 0; from <= x.size(4); from++) {
            all.add((long) x.reach(from));
            for (int to = 0; to <= x.size(4); to++) {
                all.addAll(List.of((long) x.march(from, to, 99), (long) x.worstPass(from, to, 99), (long) x.setOut(from, to, 9)));
            }
        }
        all.addAll(List.of(x.all(false, false), x.all(true, false), (long) x.worst(), (long) x.toHammer(), x.placed(false), x.placed(true)));
        all.addAll(List.of((long) x.out(), (long) x.toOpen(), (long) x.sale(9), (long) x.fits(), (long) x.could(), (long) x.surely()));
        all.addAll(List.of((long) x.ask(), (long) x.battles(5, 9, false), (long) x.battles(5, 9, true), (long) x.won(5, 9)));
        return all;
    }

    static void same(String what, List<?> want, List<?> got) {
        Check.due(what + ": " + got + " for " + want, true, got.equals(want));
    }

    /** A refused call: its answer, its number, and nothing that is kept is another. */
    static void refused(String call, ElephantLine x, int trouble, long answer, LongSupplier asks) {
        List<Integer> before = state(x);
        Check.due(call, answer, asks.getAsLong(), trouble, x);
        Check.due("where() behind " + call, -1, x.where());
        same("all behind " + call, before, state(x));
    }

    /** Refused by 1 for each of the numbers, and without a WAR for any. */
    static void noSuch(String call, int[] numbers, long answer, Call asks) {
        ElephantLine x = Check.told(WAR);
        for (int n : numbers) {
            refused(call + " " + n, x, 1, answer, () -> asks.of(x, n));
        }
        noWar(call, answer, y -> asks.of(y, 0));
    }

    static void noWar(String call, long answer, ToLongFunction<ElephantLine> asks) {
        ElephantLine x = new ElephantLine();
        refused(call + " without a WAR", x, 1, answer, () -> asks.applyAsLong(x));
    }

    /** Refused by 2 below the least and above the most, by no 2 at both. */
    static void within(String call, int least, int most, long answer, Call asks) {
        ElephantLine x = Check.told(WAR);
        for (int n : new int[] {least - 1, most + 1, Integer.MIN_VALUE, Integer.MAX_VALUE}) {
            refused(call + " " + n, x, 2, answer, () -> asks.of(x, n));
        }
        for (int n : new int[] {least, most}) {
            ElephantLine y = Check.told(WAR);
            asks.of(y, n);
            Check.due(call + " " + n + " is refused by 2", false, y.trouble() == 2);
        }
    }

    /** An upper and a lower whole. */
    static void part(String what, long up, long low, long gotUp, long gotLow) {
        Check.due(what + ", upper", up, gotUp);
        Check.due(what + ", lower", low, gotLow);
    }
}
