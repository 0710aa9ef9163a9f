import java.nio.charset.StandardCharsets;
import java.util.NoSuchElementException;
import java.util.Random;

/** Random texts and runs of 512 calls: the class answers as the model that tries everything. */
public final class ModelTest {
    private static final String[] WORDS = {"field", "lane", "beast", "city", "pass", "turned", "lanes", "deep",
        "open", "pigs", "foot", "horse", "plain", "calf", "drunk", "mailed", "in", "mood", "price", "loses",
        "a", "b", "c", "e", "f", "odd", "abcdefgh", "abcdefghi", "x", ";", "0", "1", "3", "7", "100", "1000", ".", "A"};

    private final Random dice;
    private final ElephantLine x = new ElephantLine();
    private final Model model = new Model();

    private ModelTest(long seed) {
        dice = new Random(seed);
    }

    public static void main(String[] args) {
        for (int i = 0; i < 4000; i++) {
            new ModelTest(i).texts();
        }
        for (int i = 0; i < 400; i++) {
            new ModelTest(1_000_000 + i).calls();
        }
        Check.end("ModelTest");
    }

    private int any(int least, int most) {
        return least + dice.nextInt(most - least + 1);
    }

    private boolean sometimes(int inHundred) {
        return dice.nextInt(100) < inHundred;
    }

    private String pick(String... from) {
        return from[dice.nextInt(from.length)];
    }

    private String text() {
        int lanes = any(2, 6);
        StringBuilder s = new StringBuilder("field lanes " + lanes + " deep " + any(1, 5));
        for (int l = 0; l < lanes; l++) {
            if (sometimes(85)) {
                String who = pick("open", "pigs", "foot", "foot", "horse", "horse");
                int strong = who.equals("foot") ? any(0, sometimes(70) ? 30 : 60) : any(0, sometimes(50) ? 12 : 30);
                s.append(";lane ").append(l).append(' ').append(who);
                s.append(who.equals("foot") || who.equals("horse") ? " " + strong : "");
            }
        }
        int beasts = any(1, 5);
        for (int b = 0; b < beasts; b++) {
            s.append(";beast ").append((char) ('p' + b)).append(' ').append(pick("plain", "calf", "drunk", "mailed"));
            s.append(" in ").append(any(0, lanes - 1)).append(" mood ").append(sometimes(30) ? any(80, 100) : any(0, 100));
            s.append(" price ").append(sometimes(50) ? any(1, 9) : any(1, 99));
        }
        int cities = any(0, 6);
        for (int c = 0; c < cities; c++) {
            s.append(";city ").append((char) ('a' + c));
        }
        int passes = 0;
        for (int a = 0; a < cities; a++) {
            for (int b = 0; b < a; b++) {
                if (passes < 9 && sometimes(60)) {
                    boolean turn = sometimes(50);
                    s.append(";pass ").append((char) ('a' + (turn ? a : b))).append(' ').append((char) ('a' + (turn ? b : a)));
                    s.append(" loses ").append(sometimes(30) ? 10 * any(0, 3) : any(0, 99));
                    passes++;
                }
            }
        }
        for (int b = 0; b < beasts; b++) {
            s.append(sometimes(35) ? ";turned " + (char) ('p' + b) : "");
        }
        return s.toString();
    }

    /** Puts a mistake, or what may be one, somewhere in the text. */
    private String spoiled(String text) {
        StringBuilder s = new StringBuilder(text);
        int at = any(0, s.length());
        switch (any(0, 5)) {
            case 0 -> s.insert(at, ' ');
            case 1 -> s.setLength(at);
            case 2 -> s.insert(at, " " + WORDS[dice.nextInt(WORDS.length)] + " ");
            case 3 -> s.insert(at, (char) any(0, 255));
            case 4 -> s.delete(at, Math.min(s.length(), at + any(1, 3)));
            default -> {
                String[] tokens = text.replace(";", " ; ").split(" +");
                tokens[dice.nextInt(tokens.length)] = WORDS[dice.nextInt(WORDS.length)];
                s = new StringBuilder(String.join(" ", tokens));
            }
        }
        return s.toString();
    }

    private void tell(String text) {
        byte[] bytes = text.getBytes(StandardCharsets.ISO_8859_1);
        for (int i = 0; i < bytes.length; i += 20) {
            int[] n = new int[5];
            for (int k = 0; k < 20; k++) {
                n[k / 4] = n[k / 4] << 8 | (i + k < bytes.length ? bytes[i + k] & 255 : ' ');
            }
            Check.due("feed", model.feed(n), x.feed(n[0], n[1], n[2], n[3], n[4]));
        }
        int n = Math.min(bytes.length, model.tape.length());
        same("war of " + text, () -> model.war(n), x.war(n), -1);
    }

    private interface Asked {
        long answer();
    }

    private void same(String call, Asked asked, long got, long refused) {
        long want = refused;
        try {
            want = asked.answer();
            model.trouble = 0;
        } catch (Model.Refused e) {
            model.trouble = e.number;
        }
        Check.due(call, want, got, model.trouble, x);
        Check.due("fault() behind " + call, model.fault, x.fault());
        Check.due("where() behind " + call, model.where(), x.where());
    }

    private void same(String call, Asked asked, boolean got) {
        same(call, asked, got ? 1 : 0, 0);
    }

    private void texts() {
        String text = text();
        tell(text);
        for (int i = 0; i < 5; i++) {
            text = sometimes(80) ? spoiled(text()) : spoiled(text);
            tell(text);
            sizes();
        }
    }

    private void sizes() {
        for (int what = -1; what <= 12; what++) {
            Check.due("size " + what, model.size(what), x.size(what));
        }
    }

    private void calls() {
        if (sometimes(10)) {
            looks();
        }
        tell(text());
        for (int i = 0; i < 60; i++) {
            if (sometimes(2)) {
                tell(sometimes(50) ? text() : spoiled(text()));
            }
            acts();
            looks();
            led();
            sizes();
        }
    }

    private int lane() {
        return sometimes(96) ? any(0, Math.max(0, model.now.lanes - 1)) : any(-2, 7);
    }

    private int beast() {
        return sometimes(96) ? any(0, Math.max(0, model.now.beasts.size() - 1)) : any(-2, 6);
    }

    private int city() {
        return sometimes(96) ? any(0, Math.max(0, model.now.cities - 1)) : any(-2, 7);
    }

    private int around(int least, int most) {
        return sometimes(92) ? any(least, most) : sometimes(50) ? pickEdge(least, most) : dice.nextInt();
    }

    private int pickEdge(int least, int most) {
        return new int[] {least - 1, least, most, most + 1}[dice.nextInt(4)];
    }

    private void acts() {
        int b = beast();
        int l = lane();
        boolean is = dice.nextBoolean();
        int much = around(1, 30);
        int v = around(0, 65536);
        int m = around(0, 2);
        switch (any(0, 13)) {
            case 0, 1, 2 -> same("move " + b + " " + l, () -> model.move(b, l) ? 1 : 0, x.move(b, l));
            case 3, 4 -> same("wound " + b + " " + much, () -> model.wound(b, much), x.wound(b, much), -1);
            case 5 -> {
                if (sometimes(40)) {
                    same("hammer " + b, () -> model.hammer(b) ? 1 : 0, x.hammer(b));
                }
            }
            case 6 -> same("teach " + l + " " + much, () -> model.teach(l, much), x.teach(l, much), -1);
            case 7 -> same("rain " + is, () -> model.rain(is) ? 1 : 0, x.rain(is));
            case 8 -> same("battle", model::battle, x.battle(), -1);
            case 9 -> same("seed " + v, () -> model.seed(v) ? 1 : 0, x.seed(v));
            case 10, 11 -> same("undo", () -> model.undo() ? 1 : 0, x.undo());
            case 12 -> same("mark", model::mark, x.mark(), -1);
            default -> {
                if (sometimes(40)) {
                    same("back " + m, () -> model.back(m) ? 1 : 0, x.back(m));
                }
            }
        }
    }

    private void looks() {
        looksNow();
        looksPlaced();
        looksMarches();
        looksTrumpets();
    }

    private void looksNow() {
        int b = beast();
        int l = lane();
        int laneWhat = around(0, 2);
        int beastWhat = around(0, 7);
        boolean own = dice.nextBoolean();
        boolean rain = dice.nextBoolean();
        boolean low = dice.nextBoolean();
        String bl = " " + b + " " + l + " " + own + " " + rain + " " + low;
        same("lane " + l + " " + laneWhat, () -> model.lane(l, laneWhat), x.lane(l, laneWhat), -1);
        same("beast " + b + " " + beastWhat, () -> model.beast(b, beastWhat), x.beast(b, beastWhat), -1);
        same("across" + bl, () -> model.across(b, low), x.across(b, low), -1);
        same("meets" + bl, () -> model.meets(b, l, own), x.meets(b, l, own), -1);
        same("mean" + bl, () -> model.mean(b, l, own, low), x.mean(b, l, own, low), -1);
        same("worth" + bl, () -> model.worth(b, l, low), x.worth(b, l, low), Long.MIN_VALUE);
        same("bestLane" + bl, () -> model.bestLane(b), x.bestLane(b), -1);
        same("all" + bl, () -> model.all(own, low), x.all(own, low), -1);
        same("worst", model::worst, x.worst(), -1);
        same("worthIf" + bl, () -> model.worthIf(b, l, rain, low), x.worthIf(b, l, rain, low), Long.MIN_VALUE);
        if (sometimes(10)) {
            same("moodFor" + bl, () -> model.moodFor(b, l), x.moodFor(b, l), -1);
        }
        same("toHammer", model::toHammer, x.toHammer(), -1);
    }

    private void looksPlaced() {
        int b = beast();
        int l = lane();
        boolean low = dice.nextBoolean();
        if (sometimes(10)) {
            same("place " + b, () -> model.place(b), x.place(b), -1);
            same("placed " + low, () -> model.placed(low), x.placed(low), Long.MIN_VALUE);
            same("out", model::out, x.out(), -1);
            same("rests " + b, () -> model.rests(b), x.rests(b), -1);
            same("rest " + b, () -> model.rest(b), x.rest(b), -1);
            same("weeks " + l, () -> model.weeks(l), x.weeks(l), -1);
        }
        same("toOpen", model::toOpen, x.toOpen(), -1);
    }

    private void looksMarches() {
        int from = city();
        int to = city();
        int many = sometimes(50) ? around(0, 40) : around(0, 999);
        int i = around(0, 4);
        int much = sometimes(70) ? around(0, 150) : around(0, 500);
        String way = " " + from + " " + to + " " + many + " " + i;
        same("sale " + much, () -> model.sale(much), x.sale(much), -1);
        same("saleOver " + much, () -> model.saleOver(much), x.saleOver(much), -1);
        same("march" + way, () -> model.march(from, to, many), x.march(from, to, many), -1);
        same("marchAt" + way, () -> model.marchAt(from, to, many, i), x.marchAt(from, to, many, i), -1);
        same("reach" + way, () -> model.reach(from), x.reach(from), -1);
        same("worstPass" + way, () -> model.worstPass(from, to, many), x.worstPass(from, to, many), -1);
        if (sometimes(20)) {
            same("setOut" + way, () -> model.setOut(from, to, many), x.setOut(from, to, many), -1);
        }
    }

    private void looksTrumpets() {
        int b = beast();
        int seed = around(0, 65536);
        int n = sometimes(50) ? around(1, 5) : around(1, 90);
        boolean own = dice.nextBoolean();
        String all = " " + b + " " + seed + " " + n + " " + own;
        same("fits", model::fits, x.fits(), -1);
        same("could", model::could, x.could(), -1);
        same("surely", model::surely, x.surely(), -1);
        same("ask", model::ask, x.ask(), -1);
        same("turnedBy " + b, () -> model.turnedBy(b), x.turnedBy(b), -1);
        if (sometimes(20)) {
            same("battles" + all, () -> model.battles(seed, n, own), x.battles(seed, n, own), -1);
            same("won" + all, () -> model.won(seed, n), x.won(seed, n), -1);
            same("acrossIn" + all, () -> model.acrossIn(b, seed, n), x.acrossIn(b, seed, n), -1);
        }
    }

    private void led() {
        int i = around(0, 4);
        int got = Model.NOTHING;
        try {
            got = x.led(i);
        } catch (NoSuchElementException e) {
            got = Model.NOTHING;
        }
        Check.due("led " + i, model.led(i), got);
    }
}
