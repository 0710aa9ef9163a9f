import java.math.BigInteger;
import java.util.ArrayList;
import java.util.Arrays;
import java.util.LinkedHashMap;
import java.util.List;
import java.util.Map;
import java.util.regex.Matcher;
import java.util.regex.Pattern;

/**
 * The document once more, by trying everything: slow, and written apart from the class, so that a
 * slip in one shows as a difference to the other. Refused calls leave their number in trouble.
 */
final class Model {
    static final int NOTHING = -2;
    private static final List<String> STARTS = List.of("field", "lane", "beast", "city", "pass", "turned");
    private static final List<String> WHO = List.of("open", "pigs", "foot", "horse");
    private static final List<String> KINDS = List.of("plain", "calf", "drunk", "mailed");

    /** A fraction in lowest terms. */
    static final class Part implements Comparable<Part> {
        final BigInteger up;
        final BigInteger low;

        Part(BigInteger up, BigInteger low) {
            BigInteger d = up.gcd(low);
            this.up = up.divide(d);
            this.low = low.divide(d);
        }

        static Part of(long up, long low) {
            return new Part(BigInteger.valueOf(up), BigInteger.valueOf(low));
        }

        Part plus(Part o) {
            return new Part(up.multiply(o.low).add(o.up.multiply(low)), low.multiply(o.low));
        }

        Part minus(Part o) {
            return new Part(up.multiply(o.low).subtract(o.up.multiply(low)), low.multiply(o.low));
        }

        Part times(Part o) {
            return new Part(up.multiply(o.up), low.multiply(o.low));
        }

        @Override
        public int compareTo(Part o) {
            return up.multiply(o.low).compareTo(o.up.multiply(low));
        }

        boolean above(Part o) {
            return compareTo(o) > 0;
        }

        long told(boolean lower) {
            return (lower ? low : up).longValueExact();
        }
    }

    static final Part ZERO = Part.of(0, 1);
    static final Part ONE = Part.of(1, 1);

    /** One beast; copied with all else for acts. */
    static final class Beast implements Cloneable {
        int kind;
        int lane;
        int mood;
        int price;
        int wounds;
        boolean dead;

        Beast copy() {
            try {
                return (Beast) clone();
            } catch (CloneNotSupportedException e) {
                throw new AssertionError(e);
            }
        }

        int force() {
            int whole = new int[] {20, 5, 30, 25}[kind];
            return dead || wounds > whole ? 0 : whole - wounds;
        }

        int hold(boolean rain) {
            if (kind == 1) {
                return mood < 20 ? 0 : mood - 20;
            }
            if (kind == 2) {
                return mood > 80 ? 100 : mood + 20;
            }
            return kind == 3 && rain ? mood >> 1 : mood;
        }
    }

    /** All that a text tells and acts change. */
    static final class State {
        int lanes;
        int deep;
        int lanesTold;
        int[] who = {};
        int[] strong = {};
        List<Beast> beasts = new ArrayList<>();
        int cities;
        Map<Integer, Integer> passes = new LinkedHashMap<>();
        List<Integer> turned = new ArrayList<>();
        boolean rain;
        int seed;

        State copy() {
            State s = new State();
            s.lanes = lanes;
            s.deep = deep;
            s.lanesTold = lanesTold;
            s.who = who.clone();
            s.strong = strong.clone();
            for (Beast b : beasts) {
                s.beasts.add(b.copy());
            }
            s.cities = cities;
            s.passes = passes;
            s.turned = turned;
            s.rain = rain;
            s.seed = seed;
            return s;
        }
    }

    /** Thrown to refuse a call. */
    static final class Refused extends RuntimeException {
        private static final long serialVersionUID = 1L;
        final int number;

        Refused(int number) {
            super(null, null, false, false);
            this.number = number;
        }
    }

    /** Thrown at the first fault of a text. */
    static final class Faulty extends RuntimeException {
        private static final long serialVersionUID = 1L;
        final int number;
        final int at;

        Faulty(int number, int at) {
            super(null, null, false, false);
            this.number = number;
            this.at = at;
        }
    }

    StringBuilder tape = new StringBuilder();
    State now = new State();
    List<State> undos = new ArrayList<>();
    List<State> marks = new ArrayList<>();
    int fault;
    int place = -1;
    int trouble;

    // ---- the text

    private static final class Text {
        final List<String> tokens = new ArrayList<>();
        final List<Integer> places = new ArrayList<>();
        int next;

        Text(String s) {
            Matcher m = Pattern.compile("[a-z]+|[0-9]+|[^ ]", Pattern.DOTALL).matcher(s);
            while (m.find()) {
                tokens.add(m.group());
                places.add(m.start());
            }
            tokens.add("");
            places.add(s.length());
        }

        String take() {
            String t = tokens.get(next++);
            if (!t.matches("[a-z]{1,8}|[0-9]{1,3}|;|")) {
                throw fail(1);
            }
            return t;
        }

        Faulty fail(int number) {
            return new Faulty(number, places.get(next - 1));
        }

        void word(String w) {
            if (!take().equals(w)) {
                throw fail(1);
            }
        }

        int whole(int least, int most) {
            String t = take();
            if (!t.matches("[0-9]+")) {
                throw fail(1);
            }
            int v = Integer.parseInt(t);
            if (v < least || v > most) {
                throw fail(4);
            }
            return v;
        }

        String name() {
            String t = take();
            if (!t.matches("[a-z]+") || STARTS.contains(t)) {
                throw fail(1);
            }
            return t;
        }

        int oneOf(List<String> words) {
            int i = words.indexOf(take());
            if (i < 0) {
                throw fail(1);
            }
            return i;
        }
    }

    private static State parse(String s) {
        Text t = new Text(s);
        State w = new State();
        Map<String, Integer> names = new LinkedHashMap<>(); // beasts 0 on, cities 100 on
        boolean[] told = new boolean[6];
        String first = t.take();
        if (!first.equals("field")) {
            throw t.fail(STARTS.contains(first) ? 6 : 1);
        }
        t.word("lanes");
        w.lanes = t.whole(2, 6);
        t.word("deep");
        w.deep = t.whole(1, 5);
        w.who = new int[w.lanes];
        w.strong = new int[w.lanes];
        while (true) {
            String part = t.take();
            if (part.isEmpty()) {
                break;
            }
            if (!part.equals(";")) {
                throw t.fail(1);
            }
            switch (t.oneOf(STARTS)) {
                case 0 -> throw t.fail(3);
                case 1 -> {
                    int l = t.whole(0, w.lanes - 1);
                    if (told[l]) {
                        throw t.fail(3);
                    }
                    told[l] = true;
                    w.lanesTold++;
                    w.who[l] = t.oneOf(WHO);
                    w.strong[l] = w.who[l] < 2 ? 0 : t.whole(0, w.who[l] == 2 ? 60 : 30);
                }
                case 2 -> {
                    if (w.beasts.size() == 5) {
                        throw t.fail(5);
                    }
                    if (names.putIfAbsent(t.name(), w.beasts.size()) != null) {
                        throw t.fail(3);
                    }
                    Beast b = new Beast();
                    b.kind = t.oneOf(KINDS);
                    t.word("in");
                    b.lane = t.whole(0, w.lanes - 1);
                    t.word("mood");
                    b.mood = t.whole(0, 100);
                    t.word("price");
                    b.price = t.whole(1, 99);
                    w.beasts.add(b);
                }
                case 3 -> {
                    if (w.cities == 6) {
                        throw t.fail(5);
                    }
                    if (names.putIfAbsent(t.name(), 100 + w.cities) != null) {
                        throw t.fail(3);
                    }
                    w.cities++;
                }
                case 4 -> {
                    if (w.passes.size() == 18) {
                        throw t.fail(5);
                    }
                    int a = names.getOrDefault(t.name(), -1) - 100;
                    if (a < 0) {
                        throw t.fail(2);
                    }
                    int b = names.getOrDefault(t.name(), -1) - 100;
                    if (b < 0) {
                        throw t.fail(2);
                    }
                    if (a == b || w.passes.containsKey(10 * a + b)) {
                        throw t.fail(3);
                    }
                    t.word("loses");
                    int loss = t.whole(0, 99);
                    w.passes.put(10 * a + b, loss);
                    w.passes.put(10 * b + a, loss);
                }
                default -> {
                    int b = names.getOrDefault(t.name(), 100);
                    if (b >= 100) {
                        throw t.fail(2);
                    }
                    if (w.turned.contains(b)) {
                        throw t.fail(3);
                    }
                    w.turned.add(b);
                }
            }
        }
        if (w.beasts.isEmpty()) {
            throw t.fail(6);
        }
        return w;
    }

    int feed(int... numbers) {
        if (tape.length() + 20 > 900) {
            return -1;
        }
        for (int n : numbers) {
            for (int k = 3; k >= 0; k--) {
                tape.append((char) (n >>> 8 * k & 255));
            }
        }
        return tape.length();
    }

    int war(int n) {
        if (n < 0 || n > tape.length()) {
            throw new Refused(2);
        }
        String s = tape.substring(0, n);
        tape.setLength(0);
        try {
            now = parse(s);
        } catch (Faulty f) {
            fault = f.number;
            place = f.at;
            throw new Refused(4);
        }
        fault = 0;
        undos.clear();
        marks.clear();
        return now.beasts.size();
    }

    int where() {
        return trouble == 4 ? place : -1;
    }

    // ---- looks that refuse

    private void needWar() {
        need(now.lanes > 0, 1);
    }

    private static void need(boolean so, int number) {
        if (!so) {
            throw new Refused(number);
        }
    }

    private Beast needBeast(int b) {
        need(b >= 0 && b < now.beasts.size(), 1);
        return now.beasts.get(b);
    }

    private void needLane(int l) {
        need(l >= 0 && l < now.lanes, 1);
    }

    private void needCity(int c) {
        need(c >= 0 && c < now.cities, 1);
    }

    // ---- now

    private static int foe(State s, Beast b, int l) {
        if (b.dead) {
            return 0;
        }
        return switch (s.who[l]) {
            case 1 -> b.kind == 2 ? 10 : 0;
            case 2 -> b.force() > s.strong[l] ? s.strong[l] : b.force() / 2;
            case 3 -> s.strong[l] < 8 ? 15 : b.force() > s.strong[l] ? b.force() - s.strong[l] : 0;
            default -> 0;
        };
    }

    private static int own(State s, Beast b, int l) {
        return switch (s.who[l]) {
            case 1 -> b.kind == 2 ? 0 : b.force();
            case 2 -> b.force() > s.strong[l] ? 0 : b.force();
            default -> 0;
        };
    }

    private static Part gets(State s, Beast b) {
        Part p = ONE;
        for (int i = 0; i < s.deep; i++) {
            p = p.times(Part.of(b.hold(s.rain), 100));
        }
        return b.dead ? ZERO : p;
    }

    private static Part mean(State s, Beast b, int l, boolean own) {
        Part p = gets(s, b);
        if (!own) {
            return p.times(Part.of(foe(s, b, l), 1));
        }
        return p.times(Part.of(own(s, b, l), 1)).plus(ONE.minus(p).times(Part.of(b.force() / 2, 1)));
    }

    private static Part worth(State s, Beast b, int l) {
        return mean(s, b, l, false).minus(mean(s, b, l, true));
    }

    private static Part sum(State s) {
        Part p = ZERO;
        for (Beast b : s.beasts) {
            p = p.plus(worth(s, b, b.lane));
        }
        return p;
    }

    int lane(int l, int what) {
        needLane(l);
        need(what >= 0 && what <= 2, 1);
        int bits = 0;
        for (int b = 0; b < now.beasts.size(); b++) {
            if (!now.beasts.get(b).dead && now.beasts.get(b).lane == l) {
                bits += 1 << b;
            }
        }
        return new int[] {now.who[l], now.strong[l], bits}[what];
    }

    int beast(int i, int what) {
        Beast b = needBeast(i);
        need(what >= 0 && what <= 7, 1);
        return new int[] {b.kind, b.lane, b.mood, b.price, b.force(), b.hold(now.rain), b.wounds, b.dead ? 1 : 0}[what];
    }

    long across(int b, boolean lower) {
        return gets(now, needBeast(b)).told(lower);
    }

    int meets(int i, int l, boolean own) {
        Beast b = needBeast(i);
        needLane(l);
        return own ? own(now, b, l) : foe(now, b, l);
    }

    long mean(int i, int l, boolean own, boolean lower) {
        Beast b = needBeast(i);
        needLane(l);
        return mean(now, b, l, own).told(lower);
    }

    long worth(int i, int l, boolean lower) {
        Beast b = needBeast(i);
        needLane(l);
        return worth(now, b, l).told(lower);
    }

    int bestLane(int i) {
        Beast b = needBeast(i);
        int best = 0;
        for (int l = 1; l < now.lanes; l++) {
            best = worth(now, b, l).above(worth(now, b, best)) ? l : best;
        }
        return best;
    }

    long all(boolean own, boolean lower) {
        needWar();
        Part p = ZERO;
        for (Beast b : now.beasts) {
            p = p.plus(mean(now, b, b.lane, own));
        }
        return p.told(lower);
    }

    int worst() {
        needWar();
        int found = NOTHING;
        Part most = ZERO;
        for (int i = 0; i < now.beasts.size(); i++) {
            Part p = mean(now, now.beasts.get(i), now.beasts.get(i).lane, true);
            if (p.above(most)) {
                most = p;
                found = i;
            }
        }
        return found;
    }

    long worthIf(int i, int l, boolean rain, boolean lower) {
        needBeast(i);
        needLane(l);
        State s = now.copy();
        s.rain = rain;
        return worth(s, s.beasts.get(i), l).told(lower);
    }

    int moodFor(int i, int l) {
        needBeast(i);
        needLane(l);
        State s = now.copy();
        for (int mood = 0; mood <= 100; mood++) {
            s.beasts.get(i).mood = mood;
            if (worth(s, s.beasts.get(i), l).above(ZERO)) {
                return mood;
            }
        }
        return NOTHING;
    }

    int toHammer() {
        needWar();
        int found = NOTHING;
        Part most = sum(now);
        for (int i = 0; i < now.beasts.size(); i++) {
            State s = now.copy();
            s.beasts.get(i).dead = true;
            if (sum(s).above(most)) {
                most = sum(s);
                found = i;
            }
        }
        return found;
    }

    // ---- placed, opened

    private Part bestSum;
    private int[] bestLanes;
    private Part[][] table;

    // In the order of beasts' lanes, out last: the first of like ones stays.
    private void tryAll(int b, int[] lanes, Part sum) {
        if (b == lanes.length) {
            if (bestSum == null || sum.above(bestSum)) {
                bestSum = sum;
                bestLanes = lanes.clone();
            }
            return;
        }
        for (int l = 0; l < now.lanes; l++) {
            boolean free = !now.beasts.get(b).dead;
            for (int other = 0; other < b; other++) {
                free &= lanes[other] != l;
            }
            if (free) {
                lanes[b] = l;
                tryAll(b + 1, lanes, sum.plus(table[b][l]));
            }
        }
        lanes[b] = NOTHING;
        tryAll(b + 1, lanes, sum);
    }

    private void place() {
        bestSum = null;
        table = new Part[now.beasts.size()][now.lanes];
        for (int b = 0; b < table.length; b++) {
            for (int l = 0; l < now.lanes; l++) {
                table[b][l] = worth(now, now.beasts.get(b), l);
            }
        }
        tryAll(0, new int[now.beasts.size()], ZERO);
    }

    int place(int b) {
        needBeast(b);
        place();
        return bestLanes[b];
    }

    long placed(boolean lower) {
        needWar();
        place();
        return bestSum.told(lower);
    }

    int out() {
        needWar();
        place();
        int count = 0;
        for (int b = 0; b < bestLanes.length; b++) {
            count += bestLanes[b] == NOTHING && !now.beasts.get(b).dead ? 1 : 0;
        }
        return count;
    }

    private State opened(int l) {
        State s = now.copy();
        s.who[l] = 0;
        s.strong[l] = 0;
        return s;
    }

    int toOpen() {
        needWar();
        int found = NOTHING;
        Part least = sum(now);
        for (int l = 0; l < now.lanes; l++) {
            Part p = sum(opened(l));
            if (least.above(p)) {
                least = p;
                found = l;
            }
        }
        return found;
    }

    private List<Integer> restsOf(int i) {
        Beast b = needBeast(i);
        List<Integer> found = new ArrayList<>();
        for (int l = 0; l < now.lanes; l++) {
            for (int o = 0; o < now.lanes; o++) {
                Part p = worth(opened(o), b, l);
                boolean is = true;
                for (int k = 0; k < now.lanes; k++) {
                    is &= !worth(opened(o), b, k).above(p) && !p.above(worth(opened(k), b, l));
                }
                if (is) {
                    found.add(10 * l + o);
                }
            }
        }
        return found;
    }

    int rests(int b) {
        return restsOf(b).size();
    }

    int rest(int b) {
        List<Integer> all = restsOf(b);
        return all.isEmpty() ? NOTHING : all.get(0);
    }

    int weeks(int l) {
        needLane(l);
        need(now.who[l] == 3, 5);
        State s = now.copy();
        for (int w = 0; w <= 30; w++) {
            s.strong[l] = w;
            boolean any = false;
            for (Beast b : s.beasts) {
                any |= worth(s, b, l).above(ZERO);
            }
            if (!any) {
                return w;
            }
        }
        return NOTHING;
    }

    // ---- provinces, marches

    private int price(int set) {
        int sum = 0;
        for (int b = 0; b < now.beasts.size(); b++) {
            if ((set & 1 << b) != 0) {
                sum = now.beasts.get(b).dead ? -100_000 : sum + now.beasts.get(b).price;
            }
        }
        return sum;
    }

    int sale(int much) {
        needWar();
        need(much >= 0 && much <= 500, 2);
        for (int count = 0; count <= 5; count++) {
            for (int set = 0; set < 1 << now.beasts.size(); set++) {
                if (Integer.bitCount(set) == count && price(set) >= much) {
                    return set;
                }
            }
        }
        return NOTHING;
    }

    int saleOver(int much) {
        int set = sale(much);
        need(set >= 0, 6);
        return price(set) - much;
    }

    private void ways(List<Integer> way, int to, List<List<Integer>> found) {
        int at = way.get(way.size() - 1);
        if (at == to) {
            found.add(new ArrayList<>(way));
            return;
        }
        for (int c = 0; c < now.cities; c++) {
            if (now.passes.containsKey(10 * at + c) && !way.contains(c)) {
                way.add(c);
                ways(way, to, found);
                way.remove(way.size() - 1);
            }
        }
    }

    private int come(List<Integer> way, int many) {
        int left = many;
        for (int i = 1; i < way.size(); i++) {
            left -= lost(left, now.passes.get(10 * way.get(i - 1) + way.get(i)));
        }
        return left;
    }

    private static int lost(int many, int loss) {
        int lost = 0;
        while (100 * lost < many * loss) {
            lost++;
        }
        return lost;
    }

    private List<Integer> bestWay(int from, int to, int many) {
        needCity(from);
        needCity(to);
        need(many >= 0 && many <= 999, 2);
        List<List<Integer>> found = new ArrayList<>();
        ways(new ArrayList<>(List.of(from)), to, found);
        List<Integer> best = null;
        for (List<Integer> w : found) {
            if (best == null || come(w, many) > come(best, many)) {
                best = w;
            }
        }
        return best;
    }

    int march(int from, int to, int many) {
        List<Integer> way = bestWay(from, to, many);
        return way == null ? NOTHING : come(way, many);
    }

    int marchAt(int from, int to, int many, int i) {
        List<Integer> way = bestWay(from, to, many);
        need(way != null && i >= 0 && i < way.size(), 1);
        return way.get(i);
    }

    int reach(int from) {
        needCity(from);
        int bits = 0;
        for (int c = 0; c < now.cities; c++) {
            bits |= bestWay(from, c, 1) != null ? 1 << c : 0;
        }
        return bits;
    }

    int worstPass(int from, int to, int many) {
        List<Integer> way = bestWay(from, to, many);
        int found = NOTHING;
        int most = 0;
        for (int i = 1; way != null && i < way.size(); i++) {
            int lost = come(way.subList(0, i), many) - come(way.subList(0, i + 1), many);
            if (lost > most) {
                most = lost;
                found = 10 * way.get(i - 1) + way.get(i);
            }
        }
        return found;
    }

    int setOut(int from, int to, int come) {
        if (bestWay(from, to, come) == null) {
            return NOTHING;
        }
        List<List<Integer>> found = new ArrayList<>();
        ways(new ArrayList<>(List.of(from)), to, found);
        int least = 1000;
        for (List<Integer> w : found) {
            for (int many = come; many < least; many++) {
                if (come(w, many) >= come) {
                    least = many;
                }
            }
        }
        return least == 1000 ? NOTHING : least;
    }

    // ---- trumpets

    private int turn(int set) {
        int bits = 0;
        for (int a = 0; a < now.beasts.size(); a++) {
            for (int b = 0; b < now.beasts.size(); b++) {
                Beast x = now.beasts.get(a);
                Beast y = now.beasts.get(b);
                boolean near = x.lane == y.lane || x.lane == y.lane + 1 || x.lane == y.lane - 1;
                if ((set & 1 << a) != 0 && !x.dead && !y.dead && near && y.hold(now.rain) < 50) {
                    bits |= 1 << b;
                }
            }
        }
        return bits;
    }

    private List<Integer> sets() {
        needWar();
        int told = 0;
        for (int b : now.turned) {
            told |= 1 << b;
        }
        List<Integer> found = new ArrayList<>();
        for (int set = 1; set < 1 << now.beasts.size(); set++) {
            boolean living = true;
            for (int b = 0; b < now.beasts.size(); b++) {
                living &= (set & 1 << b) == 0 || !now.beasts.get(b).dead;
            }
            if (living && turn(set) == told) {
                found.add(set);
            }
        }
        return found;
    }

    int fits() {
        return sets().size();
    }

    int could() {
        int bits = 0;
        for (int s : sets()) {
            bits |= s;
        }
        return bits;
    }

    int surely() {
        List<Integer> all = sets();
        int bits = all.isEmpty() ? 0 : -1;
        for (int s : all) {
            bits &= s;
        }
        return bits;
    }

    int ask() {
        List<Integer> all = sets();
        int found = NOTHING;
        long fewest = Long.MAX_VALUE;
        for (int b = 0; !all.isEmpty() && b < now.beasts.size(); b++) {
            int bit = 1 << b;
            long with = all.stream().filter(s -> (s & bit) != 0).count();
            long left = Math.max(with, all.size() - with);
            if (left < fewest) {
                fewest = left;
                found = b;
            }
        }
        return found;
    }

    int turnedBy(int b) {
        needBeast(b);
        return turn(1 << b);
    }

    // ---- battles

    /** Fights on a state and leaves it so: the foe's harm, the king's, who got across. */
    private static int[] fight(State s) {
        int[] harm = new int[3];
        for (int i = 0; i < s.beasts.size(); i++) {
            Beast b = s.beasts.get(i);
            if (b.dead) {
                continue;
            }
            int steps = 0;
            while (steps < s.deep) {
                s.seed = (int) ((75L * s.seed + 74) % 65537);
                if (s.seed % 100 >= b.hold(s.rain)) {
                    break;
                }
                steps++;
            }
            if (steps < s.deep) {
                harm[1] += b.force() / 2;
                continue;
            }
            int foe = foe(s, b, b.lane);
            harm[0] += foe;
            harm[1] += own(s, b, b.lane);
            harm[2] |= 1 << i;
            s.strong[b.lane] -= s.who[b.lane] == 2 ? foe : 0;
        }
        return harm;
    }

    private List<int[]> fights(int seed, int n) {
        need(seed >= 0 && seed <= 65536 && n >= 1 && n <= 90, 2);
        List<int[]> all = new ArrayList<>();
        int goes = seed;
        for (int i = 0; i < n; i++) {
            State s = now.copy();
            s.seed = goes;
            all.add(fight(s));
            goes = s.seed;
        }
        return all;
    }

    int battles(int seed, int n, boolean own) {
        needWar();
        return fights(seed, n).stream().mapToInt(h -> h[own ? 1 : 0]).sum();
    }

    int won(int seed, int n) {
        needWar();
        return (int) fights(seed, n).stream().filter(h -> h[0] > h[1]).count();
    }

    int acrossIn(int b, int seed, int n) {
        needBeast(b);
        return (int) fights(seed, n).stream().filter(h -> (h[2] & 1 << b) != 0).count();
    }

    // ---- acts

    private void act() {
        undos.add(now.copy());
        if (undos.size() > 16) {
            undos.remove(0);
        }
    }

    boolean move(int i, int l) {
        Beast b = needBeast(i);
        needLane(l);
        need(!b.dead && b.lane != l, 5);
        act();
        b.lane = l;
        return true;
    }

    int wound(int i, int much) {
        Beast b = needBeast(i);
        need(much >= 1 && much <= 30, 2);
        need(!b.dead, 5);
        act();
        b.wounds += much;
        return b.force();
    }

    boolean hammer(int i) {
        Beast b = needBeast(i);
        need(!b.dead, 5);
        act();
        b.dead = true;
        return true;
    }

    int teach(int l, int more) {
        needLane(l);
        need(more >= 1 && more <= 30, 2);
        need(now.who[l] == 3, 5);
        act();
        now.strong[l] = now.strong[l] + more > 30 ? 30 : now.strong[l] + more;
        return now.strong[l];
    }

    boolean rain(boolean is) {
        needWar();
        need(now.rain != is, 5);
        act();
        now.rain = is;
        return true;
    }

    int battle() {
        needWar();
        act();
        return fight(now)[0];
    }

    boolean seed(int v) {
        needWar();
        need(v >= 0 && v <= 65536, 2);
        now.seed = v;
        return true;
    }

    boolean undo() {
        need(!undos.isEmpty(), 6);
        now = undos.remove(undos.size() - 1);
        return true;
    }

    int mark() {
        needWar();
        need(marks.size() < 3, 3);
        marks.add(now.copy());
        return marks.size() - 1;
    }

    boolean back(int mark) {
        need(mark >= 0 && mark < marks.size(), 1);
        now = marks.get(mark).copy();
        undos.clear();
        return true;
    }

    // ---- what is told

    /** NOTHING where the class throws. */
    int led(int i) {
        List<Integer> dead = new ArrayList<>();
        for (int b = 0; b < now.beasts.size(); b++) {
            if (now.beasts.get(b).dead) {
                dead.add(b);
            }
        }
        return i >= 0 && i < dead.size() ? dead.get(i) : NOTHING;
    }

    int size(int what) {
        List<Integer> all = Arrays.asList(now.lanes, now.deep, now.lanesTold, now.beasts.size(), now.cities,
            now.passes.size() / 2, now.turned.size(), now.rain ? 1 : 0, now.seed, undos.size(), marks.size(),
            tape.length());
        return what >= 0 && what < all.size() ? all.get(what) : -1;
    }
}
