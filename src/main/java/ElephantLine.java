import java.util.NoSuchElementException;

/** Elephants in the front line, as ../shared/DOC.md promises them. */
public final class ElephantLine {
    public static final int NONE = -1;

    // An answer, not a refusal: the question was fine, but nothing fits it.
    private static final int NOTHING = -2;

    // TROUBLE.
    private static final int FINE = 0;
    private static final int NO_SUCH = 1;
    private static final int BAD_NUMBER = 2;
    private static final int NO_ROOM = 3;
    private static final int FAULTY = 4;
    private static final int NOT_SO = 5;
    private static final int NONE_THERE = 6;

    // FAULTS.
    private static final int FORM = 1;
    private static final int NOT_TOLD = 2;
    private static final int TOLD_AGAIN = 3;
    private static final int OUT_OF_BOUNDS = 4;
    private static final int MANY = 5;
    private static final int LACKS = 6;

    // Who stands in a lane.
    private static final int OPEN = 0;
    private static final int PIGS = 1;
    private static final int FOOT = 2;
    private static final int HORSE = 3;

    // KINDS of beasts.
    private static final int PLAIN = 0;
    private static final int CALF = 1;
    private static final int DRUNK = 2;
    private static final int MAILED = 3;

    private static final int TAPE_BYTES = 900;
    private static final int MOST_LANES = 6;
    private static final int MOST_DEEP = 5;
    private static final int MOST_BEASTS = 5;
    private static final int MOST_CITIES = 6;
    private static final int MOST_PASSES = 9;
    private static final int MOST_WEEKS = 30;
    // Horse taught so many weeks no longer flee.
    private static final int TAUGHT = 8;
    private static final int MOST_WOUND = 30;
    private static final int MOST_MOOD = 100;
    private static final int MOST_MARCHING = 999;
    private static final int MOST_PRICE = 99;
    private static final int MOST_SALE = 500;
    private static final int MOST_STRONG = 60;
    private static final int MOST_LOSS = 99;
    private static final int MOST_BATTLES = 90;
    private static final int MOST_SEED = 65_536;
    private static final int KEPT_ACTS = 16;
    private static final int MOST_MARKS = 3;

    private final byte[] tape;
    private int bytes;
    private final Reader reader;
    private final Land land;
    private final Stand now;
    private final Past past;
    private final Odds odds;
    private final Game game;
    private final Placing placing;
    private final Marching marching;
    private final Trumpets trumpets;
    private final Fight fight;
    private int refusal;
    private int faultTold;
    private int faultPlace;

    public ElephantLine() {
        tape = new byte[TAPE_BYTES];
        reader = new Reader(tape);
        land = new Land();
        now = new Stand();
        past = new Past();
        odds = new Odds(land, now);
        game = new Game(land, now, odds);
        placing = new Placing(land, now, odds);
        marching = new Marching(land);
        trumpets = new Trumpets(land, now, odds);
        fight = new Fight(land, now, odds);
    }

    // ---- the war

    public int feed(int a, int b, int c, int d, int e) {
        if (bytes + 20 > TAPE_BYTES) {
            return NONE;
        }
        append(a);
        append(b);
        append(c);
        append(d);
        append(e);
        return bytes;
    }

    public int war(int n) {
        if (isRefused(outside(n, 0, bytes) ? BAD_NUMBER : FINE)) {
            return NONE;
        }
        faultTold = reader.readText(n);
        faultPlace = reader.faultAt;
        bytes = 0;
        if (isRefused(faultTold == 0 ? FINE : FAULTY)) {
            return NONE;
        }
        land.copyOf(reader.draft);
        now.begin(land);
        past.forget();
        return land.beasts;
    }

    public int fault() {
        return faultTold;
    }

    public int where() {
        return refusal == FAULTY ? faultPlace : NONE;
    }

    // ---- now

    public int lane(int l, int what) {
        if (isRefused(!land.hasLane(l) || outside(what, 0, 2) ? NO_SUCH : FINE)) {
            return NONE;
        }
        switch (what) {
            case 0:
                return land.who[l];
            case 1:
                return now.strong[l];
            default:
                return now.livingIn(l, land.beasts);
        }
    }

    public int beast(int b, int what) {
        if (isRefused(!land.hasBeast(b) || outside(what, 0, 7) ? NO_SUCH : FINE)) {
            return NONE;
        }
        switch (what) {
            case 0:
                return land.kind[b];
            case 1:
                return now.at[b];
            case 2:
                return land.mood[b];
            case 3:
                return land.price[b];
            case 4:
                return odds.forceOf(b);
            case 5:
                return odds.holdOf(b);
            case 6:
                return now.wounds[b];
            default:
                return now.isDead(b) ? 1 : 0;
        }
    }

    public long across(int b, boolean lower) {
        return isRefused(beastTrouble(b)) ? NONE : odds.told(odds.acrossOverFull(b), lower);
    }

    public int meets(int b, int l, boolean own) {
        if (isRefused(meetingTrouble(b, l))) {
            return NONE;
        }
        return odds.harmIn(b, l, own);
    }

    public long mean(int b, int l, boolean own, boolean lower) {
        return isRefused(meetingTrouble(b, l)) ? NONE : odds.told(odds.meanIn(b, l, own), lower);
    }

    public long worth(int b, int l, boolean lower) {
        return isRefused(meetingTrouble(b, l)) ? Long.MIN_VALUE : odds.told(odds.worthIn(b, l), lower);
    }

    public int bestLane(int b) {
        return isRefused(beastTrouble(b)) ? NONE : odds.laneOfMostWorth(b);
    }

    public long all(boolean own, boolean lower) {
        return isRefused(warTrouble()) ? NONE : odds.told(odds.sumOfMeans(own), lower);
    }

    public int worst() {
        return isRefused(warTrouble()) ? NONE : odds.beastOfMostOwnHarm();
    }

    public long worthIf(int b, int l, boolean rain, boolean lower) {
        if (isRefused(meetingTrouble(b, l))) {
            return Long.MIN_VALUE;
        }
        int hold = Odds.holdBy(land.kind[b], land.mood[b], rain);
        return odds.told(odds.worthBy(b, land.who[l], now.strong[l], hold), lower);
    }

    public int moodFor(int b, int l) {
        return isRefused(meetingTrouble(b, l)) ? NONE : odds.leastMood(b, l);
    }

    public int toHammer() {
        return isRefused(warTrouble()) ? NONE : odds.beastBetterDead();
    }

    // ---- placed, opened

    public int place(int b) {
        if (isRefused(beastTrouble(b))) {
            return NONE;
        }
        placing.settle();
        return placing.laneFor(b);
    }

    public long placed(boolean lower) {
        if (isRefused(warTrouble())) {
            return Long.MIN_VALUE;
        }
        placing.settle();
        return odds.told(placing.greatestSum(), lower);
    }

    public int out() {
        if (isRefused(warTrouble())) {
            return NONE;
        }
        placing.settle();
        return placing.livingLeftOut();
    }

    public int toOpen() {
        return isRefused(warTrouble()) ? NONE : game.laneBestOpened();
    }

    public int rests(int b) {
        if (isRefused(beastTrouble(b))) {
            return NONE;
        }
        game.weigh(b);
        return game.countRests();
    }

    public int rest(int b) {
        if (isRefused(beastTrouble(b))) {
            return NONE;
        }
        game.weigh(b);
        return game.firstRest();
    }

    public int weeks(int l) {
        return isRefused(horseTrouble(l, FINE)) ? NONE : odds.leastWeeks();
    }

    // ---- provinces, marches

    public int sale(int much) {
        return isRefused(saleTrouble(much)) ? NONE : fewestToSell(much);
    }

    public int saleOver(int much) {
        if (isRefused(saleTrouble(much))) {
            return NONE;
        }
        int sold = fewestToSell(much);
        return isRefused(sold == NOTHING ? NONE_THERE : FINE) ? NONE : priceOf(sold) - much;
    }

    public int march(int from, int to, int many) {
        return isRefused(marchTrouble(from, to, many)) ? NONE : marching.mostThatCome(from, to, many);
    }

    public int marchAt(int from, int to, int many, int i) {
        if (isRefused(marchTrouble(from, to, many))) {
            return NONE;
        }
        marching.mostThatCome(from, to, many);
        if (isRefused(outside(i, 0, marching.citiesOnWay() - 1) ? NO_SUCH : FINE)) {
            return NONE;
        }
        return marching.cityOnWay(i);
    }

    public int reach(int from) {
        return isRefused(cityTrouble(from)) ? NONE : marching.citiesFrom(from);
    }

    public int worstPass(int from, int to, int many) {
        return isRefused(marchTrouble(from, to, many)) ? NONE : marching.dearestPass(from, to, many);
    }

    public int setOut(int from, int to, int come) {
        return isRefused(marchTrouble(from, to, come)) ? NONE : marching.leastThatSetOut(from, to, come);
    }

    // ---- trumpets

    public int fits() {
        if (isRefused(warTrouble())) {
            return NONE;
        }
        trumpets.findSets();
        return trumpets.sets;
    }

    public int could() {
        if (isRefused(warTrouble())) {
            return NONE;
        }
        trumpets.findSets();
        return trumpets.inSome;
    }

    public int surely() {
        if (isRefused(warTrouble())) {
            return NONE;
        }
        trumpets.findSets();
        return trumpets.inAll;
    }

    public int ask() {
        if (isRefused(warTrouble())) {
            return NONE;
        }
        trumpets.findSets();
        return trumpets.bestToAsk();
    }

    public int turnedBy(int b) {
        return isRefused(beastTrouble(b)) ? NONE : trumpets.turnBy(b);
    }

    // ---- battles

    public int battles(int seed, int n, boolean own) {
        if (isRefused(battlesTrouble(land.isTold(), seed, n))) {
            return NONE;
        }
        fight.fightMany(seed, n);
        return own ? fight.ownHarmInAll : fight.foeHarmInAll;
    }

    public int won(int seed, int n) {
        if (isRefused(battlesTrouble(land.isTold(), seed, n))) {
            return NONE;
        }
        fight.fightMany(seed, n);
        return fight.wins;
    }

    public int acrossIn(int b, int seed, int n) {
        if (isRefused(battlesTrouble(land.hasBeast(b), seed, n))) {
            return NONE;
        }
        fight.fightMany(seed, n);
        return fight.crossings[b];
    }

    // ---- acts

    public boolean move(int b, int l) {
        if (isRefused(moveTrouble(b, l))) {
            return false;
        }
        past.keep(now);
        now.at[b] = l;
        return true;
    }

    public int wound(int b, int much) {
        if (isRefused(livingTrouble(b, outside(much, 1, MOST_WOUND) ? BAD_NUMBER : FINE))) {
            return NONE;
        }
        past.keep(now);
        now.wounds[b] += much;
        return odds.forceOf(b);
    }

    public boolean hammer(int b) {
        if (isRefused(livingTrouble(b, FINE))) {
            return false;
        }
        past.keep(now);
        now.dead |= 1 << b;
        return true;
    }

    public int teach(int l, int more) {
        if (isRefused(horseTrouble(l, outside(more, 1, MOST_WEEKS) ? BAD_NUMBER : FINE))) {
            return NONE;
        }
        past.keep(now);
        now.strong[l] = Math.min(MOST_WEEKS, now.strong[l] + more);
        return now.strong[l];
    }

    public boolean rain(boolean is) {
        if (isRefused(!land.isTold() ? NO_SUCH : now.wet == is ? NOT_SO : FINE)) {
            return false;
        }
        past.keep(now);
        now.wet = is;
        return true;
    }

    public int battle() {
        if (isRefused(warTrouble())) {
            return NONE;
        }
        past.keep(now);
        fight.fightFrom(now.drawn);
        fight.leaveBehind();
        return fight.foeHarm;
    }

    public boolean seed(int v) {
        if (isRefused(!land.isTold() ? NO_SUCH : outside(v, 0, MOST_SEED) ? BAD_NUMBER : FINE)) {
            return false;
        }
        now.drawn = v;
        return true;
    }

    public boolean undo() {
        return !isRefused(past.takeBack(now) ? FINE : NONE_THERE);
    }

    public int mark() {
        if (isRefused(!land.isTold() ? NO_SUCH : past.marks >= MOST_MARKS ? NO_ROOM : FINE)) {
            return NONE;
        }
        return past.addMark(now);
    }

    public boolean back(int mark) {
        return !isRefused(past.goBack(mark, now) ? FINE : NO_SUCH);
    }

    // ---- what is told

    public int led(int i) throws NoSuchElementException {
        int before = 0;
        for (int b = 0; b < land.beasts; b++) {
            if (now.isDead(b)) {
                if (before == i) {
                    return b;
                }
                before++;
            }
        }
        throw new NoSuchElementException("no such dead beast");
    }

    public int size(int what) {
        switch (what) {
            case 0:
                return land.lanes;
            case 1:
                return land.deep;
            case 2:
                return Integer.bitCount(land.lanesTold);
            case 3:
                return land.beasts;
            case 4:
                return land.cities;
            case 5:
                return land.passes;
            case 6:
                return Integer.bitCount(land.turned);
            case 7:
                return now.wet ? 1 : 0;
            case 8:
                return now.drawn;
            case 9:
                return past.acts;
            case 10:
                return past.marks;
            case 11:
                return bytes;
            default:
                return NONE;
        }
    }

    public int trouble() {
        return refusal;
    }

    // ---- what the calls share

    private static boolean outside(int value, int least, int most) {
        return value < least || value > most;
    }

    private void append(int number) {
        for (int shift = 24; shift >= 0; shift -= 8) {
            if (bytes < tape.length) {
                tape[bytes] = (byte) (number >> shift);
                bytes++;
            }
        }
    }

    // Troubles are looked for in the order in which the document tells them.

    private boolean isRefused(int number) {
        refusal = number;
        return number != FINE;
    }

    private int warTrouble() {
        return land.isTold() ? FINE : NO_SUCH;
    }

    private int beastTrouble(int b) {
        return land.hasBeast(b) ? FINE : NO_SUCH;
    }

    private int meetingTrouble(int b, int l) {
        return land.hasBeast(b) && land.hasLane(l) ? FINE : NO_SUCH;
    }

    private int cityTrouble(int c) {
        return land.hasCity(c) ? FINE : NO_SUCH;
    }

    private int moveTrouble(int b, int l) {
        if (!land.hasBeast(b) || !land.hasLane(l)) {
            return NO_SUCH;
        }
        return now.isDead(b) || now.at[b] == l ? NOT_SO : FINE;
    }

    private int livingTrouble(int b, int numberTrouble) {
        if (!land.hasBeast(b)) {
            return NO_SUCH;
        }
        if (numberTrouble != FINE) {
            return numberTrouble;
        }
        return now.isDead(b) ? NOT_SO : FINE;
    }

    private int horseTrouble(int l, int numberTrouble) {
        if (!land.hasLane(l)) {
            return NO_SUCH;
        }
        if (numberTrouble != FINE) {
            return numberTrouble;
        }
        return land.who[l] == HORSE ? FINE : NOT_SO;
    }

    private int saleTrouble(int much) {
        if (!land.isTold()) {
            return NO_SUCH;
        }
        return outside(much, 0, MOST_SALE) ? BAD_NUMBER : FINE;
    }

    private int marchTrouble(int from, int to, int many) {
        if (!land.hasCity(from) || !land.hasCity(to)) {
            return NO_SUCH;
        }
        return outside(many, 0, MOST_MARCHING) ? BAD_NUMBER : FINE;
    }

    private static int battlesTrouble(boolean told, int seed, int n) {
        if (!told) {
            return NO_SUCH;
        }
        return outside(seed, 0, MOST_SEED) || outside(n, 1, MOST_BATTLES) ? BAD_NUMBER : FINE;
    }

    private int priceOf(int set) {
        int sum = 0;
        for (int b = 0; b < land.beasts; b++) {
            sum += (set >> b & 1) == 1 ? land.price[b] : 0;
        }
        return sum;
    }

    private int fewestToSell(int much) {
        int found = NOTHING;
        int fewest = MOST_BEASTS + 1;
        for (int set = 0; set < 1 << land.beasts; set++) {
            int count = Integer.bitCount(set);
            if (count < fewest && (set & now.dead) == 0 && priceOf(set) >= much) {
                found = set;
                fewest = count;
            }
        }
        return found;
    }

    /** What the text tells and no act changes. */
    private static final class Land {
        private int lanes;
        private int deep;
        private int lanesTold;
        private final int[] who = new int[MOST_LANES];
        private final int[] firstStrong = new int[MOST_LANES];
        private int beasts;
        private final int[] kind = new int[MOST_BEASTS];
        private final int[] firstLane = new int[MOST_BEASTS];
        private final int[] mood = new int[MOST_BEASTS];
        private final int[] price = new int[MOST_BEASTS];
        private int cities;
        private int passes;
        // Of two cities one more than what the pass loses, so that 0 means no pass.
        private final int[] passBetween = new int[MOST_CITIES * MOST_CITIES];
        private int turned;

        void clear() {
            lanes = 0;
            deep = 0;
            lanesTold = 0;
            beasts = 0;
            cities = 0;
            passes = 0;
            turned = 0;
            for (int l = 0; l < MOST_LANES; l++) {
                who[l] = OPEN;
                firstStrong[l] = 0;
            }
            for (int i = 0; i < passBetween.length; i++) {
                passBetween[i] = 0;
            }
        }

        void copyOf(Land other) {
            lanes = other.lanes;
            deep = other.deep;
            lanesTold = other.lanesTold;
            beasts = other.beasts;
            cities = other.cities;
            passes = other.passes;
            turned = other.turned;
            System.arraycopy(other.who, 0, who, 0, MOST_LANES);
            System.arraycopy(other.firstStrong, 0, firstStrong, 0, MOST_LANES);
            System.arraycopy(other.kind, 0, kind, 0, MOST_BEASTS);
            System.arraycopy(other.firstLane, 0, firstLane, 0, MOST_BEASTS);
            System.arraycopy(other.mood, 0, mood, 0, MOST_BEASTS);
            System.arraycopy(other.price, 0, price, 0, MOST_BEASTS);
            System.arraycopy(other.passBetween, 0, passBetween, 0, passBetween.length);
        }

        boolean isTold() {
            return lanes > 0;
        }

        boolean hasLane(int l) {
            return l >= 0 && l < lanes;
        }

        boolean hasBeast(int b) {
            return b >= 0 && b < beasts;
        }

        boolean hasCity(int c) {
            return c >= 0 && c < cities;
        }

        boolean isLaneTold(int l) {
            return (lanesTold >> l & 1) == 1;
        }

        boolean hasTurned(int b) {
            return (turned >> b & 1) == 1;
        }

        /** What the pass between two cities loses in a hundred; NONE without a pass. */
        int lossBetween(int a, int b) {
            return hasCity(a) && hasCity(b) ? passBetween[a * MOST_CITIES + b] - 1 : NONE;
        }

        void tellLane(int l, int whoIs, int strong) {
            if (hasLane(l)) {
                lanesTold |= 1 << l;
                who[l] = whoIs;
                firstStrong[l] = strong;
            }
        }

        void addBeast(int itsKind, int itsLane, int itsMood, int itsPrice) {
            if (beasts < MOST_BEASTS) {
                kind[beasts] = itsKind;
                firstLane[beasts] = itsLane;
                mood[beasts] = itsMood;
                price[beasts] = itsPrice;
                beasts++;
            }
        }

        void addPass(int a, int b, int loss) {
            if (hasCity(a) && hasCity(b)) {
                passBetween[a * MOST_CITIES + b] = loss + 1;
                passBetween[b * MOST_CITIES + a] = loss + 1;
                passes++;
            }
        }
    }

    /** What acts change. */
    private static final class Stand {
        // How strong foot are, or how many weeks horse are taught.
        private final int[] strong = new int[MOST_LANES];
        private final int[] at = new int[MOST_BEASTS];
        private final int[] wounds = new int[MOST_BEASTS];
        private int dead;
        private boolean wet;
        private int drawn;

        void begin(Land land) {
            System.arraycopy(land.firstStrong, 0, strong, 0, MOST_LANES);
            System.arraycopy(land.firstLane, 0, at, 0, MOST_BEASTS);
            for (int b = 0; b < MOST_BEASTS; b++) {
                wounds[b] = 0;
            }
            dead = 0;
            wet = false;
            drawn = 0;
        }

        void copyOf(Stand other) {
            System.arraycopy(other.strong, 0, strong, 0, MOST_LANES);
            System.arraycopy(other.at, 0, at, 0, MOST_BEASTS);
            System.arraycopy(other.wounds, 0, wounds, 0, MOST_BEASTS);
            dead = other.dead;
            wet = other.wet;
            drawn = other.drawn;
        }

        boolean isDead(int b) {
            return (dead >> b & 1) == 1;
        }

        int livingIn(int l, int beasts) {
            int bits = 0;
            for (int b = 0; b < beasts && b < MOST_BEASTS; b++) {
                if (at[b] == l && !isDead(b)) {
                    bits |= 1 << b;
                }
            }
            return bits;
        }
    }

    /** What can be undone, and the marks. */
    private static final class Past {
        private final Stand[] kept = new Stand[KEPT_ACTS];
        private final Stand[] marked = new Stand[MOST_MARKS];
        private int latest;
        private int acts;
        private int marks;

        Past() {
            for (int i = 0; i < KEPT_ACTS; i++) {
                kept[i] = new Stand();
            }
            for (int i = 0; i < MOST_MARKS; i++) {
                marked[i] = new Stand();
            }
        }

        void forget() {
            acts = 0;
            marks = 0;
        }

        // The rows go round: the oldest of sixteen is written over.
        void keep(Stand now) {
            latest = latest + 1 < KEPT_ACTS ? latest + 1 : 0;
            kept[latest].copyOf(now);
            acts = Math.min(KEPT_ACTS, acts + 1);
        }

        boolean takeBack(Stand now) {
            if (acts == 0) {
                return false;
            }
            now.copyOf(kept[latest]);
            latest = latest > 0 ? latest - 1 : KEPT_ACTS - 1;
            acts--;
            return true;
        }

        int addMark(Stand now) {
            if (marks >= MOST_MARKS) {
                return NONE;
            }
            marked[marks].copyOf(now);
            marks++;
            return marks - 1;
        }

        boolean goBack(int mark, Stand now) {
            if (mark < 0 || mark >= marks || mark >= MOST_MARKS) {
                return false;
            }
            now.copyOf(marked[mark]);
            acts = 0;
            return true;
        }
    }

    /** Parts the tape into tokens; a run of letters or digits too long for a token is none. */
    private static final class Tokens {
        private static final int AT_END = 0;
        private static final int WORD = 1;
        private static final int WHOLE = 2;
        private static final int SEMICOLON = 3;
        private static final int NO_TOKEN = 4;
        private static final int LONGEST_WORD = 8;
        private static final int LONGEST_WHOLE = 3;

        private final byte[] tape;
        private int limit;
        private int start;
        private int end;
        private int sort;

        Tokens(byte[] tape) {
            this.tape = tape;
        }

        void begin(int length) {
            limit = Math.min(length, tape.length);
            start = 0;
            end = 0;
            sort = AT_END;
        }

        void step() {
            start = end;
            while (start < limit && tape[start] == ' ') {
                start++;
            }
            end = start;
            if (start >= limit) {
                sort = AT_END;
            } else if (tape[start] == ';') {
                end = start + 1;
                sort = SEMICOLON;
            } else if (runOn('a', 'z')) {
                sort = end - start <= LONGEST_WORD ? WORD : NO_TOKEN;
            } else if (runOn('0', '9')) {
                sort = end - start <= LONGEST_WHOLE ? WHOLE : NO_TOKEN;
            } else {
                sort = NO_TOKEN;
            }
        }

        private boolean runOn(char least, char most) {
            while (end < limit && tape[end] >= least && tape[end] <= most) {
                end++;
            }
            return end > start;
        }

        boolean isWord(String word) {
            if (sort != WORD || end - start != word.length()) {
                return false;
            }
            for (int i = 0; i < word.length(); i++) {
                if (tape[start + i] != word.charAt(i)) {
                    return false;
                }
            }
            return true;
        }

        int value() {
            int sum = 0;
            for (int i = start; i < end; i++) {
                sum = 10 * sum + tape[i] - '0';
            }
            return sum;
        }

        boolean beginsLine() {
            return isWord("field") || isWord("lane") || isWord("beast")
                || isWord("city") || isWord("pass") || isWord("turned");
        }

        boolean isSameAs(int otherStart, int otherEnd) {
            if (end - start != otherEnd - otherStart || otherStart < 0 || otherEnd > limit) {
                return false;
            }
            for (int i = 0; i < end - start; i++) {
                if (tape[start + i] != tape[otherStart + i]) {
                    return false;
                }
            }
            return true;
        }
    }

    /** Reads a text into a draft, so that the war that is stays if the text has a fault. */
    private static final class Reader {
        private static final int MOST_NAMES = MOST_BEASTS + MOST_CITIES;

        private final Tokens token;
        private final Land draft = new Land();
        // Names are kept as places on the tape, since nothing asks for them behind the reading.
        private final int[] nameStarts = new int[MOST_NAMES];
        private final int[] nameEnds = new int[MOST_NAMES];
        private final int[] nameNumbers = new int[MOST_NAMES];
        private final boolean[] nameIsBeast = new boolean[MOST_NAMES];
        private int names;
        private int faultFound;
        private int faultAt;

        Reader(byte[] tape) {
            token = new Tokens(tape);
        }

        /** The fault's number; 0 without one. */
        int readText(int length) {
            faultFound = 0;
            faultAt = NONE;
            names = 0;
            draft.clear();
            token.begin(length);
            boolean goesOn = readFirstLine();
            for (int line = 0; goesOn && line < TAPE_BYTES; line++) {
                token.step();
                if (token.sort == Tokens.AT_END) {
                    break;
                }
                goesOn = token.sort == Tokens.SEMICOLON ? readLine() : fail(FORM);
            }
            if (goesOn && draft.beasts == 0) {
                fail(LACKS);
            }
            return faultFound;
        }

        private boolean fail(int number) {
            faultFound = number;
            faultAt = token.start;
            return false;
        }

        private boolean readFirstLine() {
            token.step();
            if (!token.isWord("field")) {
                return fail(token.beginsLine() ? LACKS : FORM);
            }
            int lanes = readWord("lanes") ? readWhole(2, MOST_LANES) : NONE;
            if (lanes == NONE) {
                return false;
            }
            int deep = readWord("deep") ? readWhole(1, MOST_DEEP) : NONE;
            if (deep == NONE) {
                return false;
            }
            draft.lanes = lanes;
            draft.deep = deep;
            return true;
        }

        private boolean readLine() {
            token.step();
            if (token.isWord("field")) {
                return fail(TOLD_AGAIN);
            }
            if (token.isWord("lane")) {
                return readLane();
            }
            if (token.isWord("beast")) {
                return draft.beasts < MOST_BEASTS ? readBeast() : fail(MANY);
            }
            if (token.isWord("city")) {
                return draft.cities < MOST_CITIES ? readCity() : fail(MANY);
            }
            if (token.isWord("pass")) {
                return draft.passes < MOST_PASSES ? readPass() : fail(MANY);
            }
            return token.isWord("turned") ? readTurned() : fail(FORM);
        }

        private boolean readLane() {
            int l = readWhole(0, draft.lanes - 1);
            if (l == NONE) {
                return false;
            }
            if (draft.isLaneTold(l)) {
                return fail(TOLD_AGAIN);
            }
            token.step();
            int who = whoIsTold();
            if (who == NONE) {
                return fail(FORM);
            }
            int strong = who == FOOT ? readWhole(0, MOST_STRONG)
                : who == HORSE ? readWhole(0, MOST_WEEKS)
                : 0;
            if (strong == NONE) {
                return false;
            }
            draft.tellLane(l, who, strong);
            return true;
        }

        private int whoIsTold() {
            return token.isWord("open") ? OPEN
                : token.isWord("pigs") ? PIGS
                : token.isWord("foot") ? FOOT
                : token.isWord("horse") ? HORSE
                : NONE;
        }

        private boolean readBeast() {
            if (!readNewName(true, draft.beasts)) {
                return false;
            }
            token.step();
            int kind = kindIsTold();
            if (kind == NONE) {
                return fail(FORM);
            }
            int lane = readWord("in") ? readWhole(0, draft.lanes - 1) : NONE;
            if (lane == NONE) {
                return false;
            }
            int mood = readWord("mood") ? readWhole(0, MOST_MOOD) : NONE;
            if (mood == NONE) {
                return false;
            }
            int price = readWord("price") ? readWhole(1, MOST_PRICE) : NONE;
            if (price == NONE) {
                return false;
            }
            draft.addBeast(kind, lane, mood, price);
            return true;
        }

        private int kindIsTold() {
            return token.isWord("plain") ? PLAIN
                : token.isWord("calf") ? CALF
                : token.isWord("drunk") ? DRUNK
                : token.isWord("mailed") ? MAILED
                : NONE;
        }

        private boolean readCity() {
            if (!readNewName(false, draft.cities)) {
                return false;
            }
            draft.cities++;
            return true;
        }

        private boolean readPass() {
            int first = readKnownName(false);
            if (first == NONE) {
                return false;
            }
            int second = readKnownName(false);
            if (second == NONE) {
                return false;
            }
            if (first == second || draft.lossBetween(first, second) != NONE) {
                return fail(TOLD_AGAIN);
            }
            int loss = readWord("loses") ? readWhole(0, MOST_LOSS) : NONE;
            if (loss == NONE) {
                return false;
            }
            draft.addPass(first, second, loss);
            return true;
        }

        private boolean readTurned() {
            int b = readKnownName(true);
            if (b == NONE) {
                return false;
            }
            if (draft.hasTurned(b)) {
                return fail(TOLD_AGAIN);
            }
            draft.turned |= 1 << b;
            return true;
        }

        private boolean readNewName(boolean isBeast, int number) {
            token.step();
            if (token.sort != Tokens.WORD || token.beginsLine()) {
                return fail(FORM);
            }
            if (indexOfName() != NONE) {
                return fail(TOLD_AGAIN);
            }
            if (names < MOST_NAMES) {
                nameStarts[names] = token.start;
                nameEnds[names] = token.end;
                nameNumbers[names] = number;
                nameIsBeast[names] = isBeast;
                names++;
            }
            return true;
        }

        /** The beast's or the city's number; NONE behind a fault. */
        private int readKnownName(boolean isBeast) {
            token.step();
            if (token.sort != Tokens.WORD || token.beginsLine()) {
                fail(FORM);
                return NONE;
            }
            int i = indexOfName();
            if (i == NONE || nameIsBeast[i] != isBeast) {
                fail(NOT_TOLD);
                return NONE;
            }
            return nameNumbers[i];
        }

        private int indexOfName() {
            for (int i = 0; i < names && i < MOST_NAMES; i++) {
                if (token.isSameAs(nameStarts[i], nameEnds[i])) {
                    return i;
                }
            }
            return NONE;
        }

        private boolean readWord(String word) {
            token.step();
            return token.isWord(word) || fail(FORM);
        }

        /** The whole; NONE behind a fault. */
        private int readWhole(int least, int most) {
            token.step();
            if (token.sort != Tokens.WHOLE) {
                fail(FORM);
                return NONE;
            }
            int value = token.value();
            if (outside(value, least, most)) {
                fail(OUT_OF_BOUNDS);
                return NONE;
            }
            return value;
        }
    }

    /**
     * Force, hold, harms and their means. Means stand over full(), which all beasts of one field
     * share, so that they are compared and added as wholes.
     */
    private static final class Odds {
        private final Land land;
        private final Stand now;

        Odds(Land land, Stand now) {
            this.land = land;
            this.now = now;
        }

        static int firstForce(int kind) {
            return kind == CALF ? 5 : kind == DRUNK ? 30 : kind == MAILED ? 25 : 20;
        }

        static int holdBy(int kind, int mood, boolean wet) {
            switch (kind) {
                case CALF:
                    return Math.max(0, mood - 20);
                case DRUNK:
                    return Math.min(100, mood + 20);
                case MAILED:
                    return wet ? mood / 2 : mood;
                default:
                    return mood;
            }
        }

        int forceOf(int b) {
            return now.isDead(b) ? 0 : Math.max(0, firstForce(land.kind[b]) - now.wounds[b]);
        }

        int holdOf(int b) {
            return holdBy(land.kind[b], land.mood[b], now.wet);
        }

        static int foeHarm(int kind, int force, int who, int strong) {
            switch (who) {
                case PIGS:
                    return kind == DRUNK ? 10 : 0;
                case FOOT:
                    return force > strong ? strong : force / 2;
                case HORSE:
                    return strong < TAUGHT ? 15 : Math.max(0, force - strong);
                default:
                    return 0;
            }
        }

        static int ownHarm(int kind, int force, int who, int strong) {
            switch (who) {
                case PIGS:
                    return kind == DRUNK ? 0 : force;
                case FOOT:
                    return force > strong ? 0 : force;
                default:
                    return 0;
            }
        }

        static int turningHarm(int force) {
            return force / 2;
        }

        int harmIn(int b, int l, boolean own) {
            if (now.isDead(b)) {
                return 0;
            }
            int force = forceOf(b);
            return own ? ownHarm(land.kind[b], force, land.who[l], now.strong[l])
                : foeHarm(land.kind[b], force, land.who[l], now.strong[l]);
        }

        private long power(int hold) {
            long product = 1;
            for (int step = 0; step < land.deep; step++) {
                product *= hold;
            }
            return product;
        }

        long full() {
            return power(100);
        }

        long acrossOverFull(int b) {
            return now.isDead(b) ? 0 : power(holdOf(b));
        }

        long meanIn(int b, int l, boolean own) {
            long gets = acrossOverFull(b);
            long turns = own ? (full() - gets) * turningHarm(forceOf(b)) : 0;
            return gets * harmIn(b, l, own) + turns;
        }

        long worthBy(int b, int who, int strong, int hold) {
            if (now.isDead(b)) {
                return 0;
            }
            int kind = land.kind[b];
            int force = forceOf(b);
            long gets = power(hold);
            int gain = foeHarm(kind, force, who, strong) - ownHarm(kind, force, who, strong);
            return gets * gain - (full() - gets) * turningHarm(force);
        }

        long worthIn(int b, int l) {
            return worthBy(b, land.who[l], now.strong[l], holdOf(b));
        }

        long worthInOpen(int b) {
            return worthBy(b, OPEN, 0, holdOf(b));
        }

        long sumOfMeans(boolean own) {
            long sum = 0;
            for (int b = 0; b < land.beasts; b++) {
                sum += meanIn(b, now.at[b], own);
            }
            return sum;
        }

        int laneOfMostWorth(int b) {
            int best = 0;
            long most = worthIn(b, 0);
            for (int l = 1; l < land.lanes; l++) {
                long worth = worthIn(b, l);
                if (worth > most) {
                    best = l;
                    most = worth;
                }
            }
            return best;
        }

        int beastOfMostOwnHarm() {
            int found = NOTHING;
            long most = 0;
            for (int b = 0; b < land.beasts; b++) {
                long mean = meanIn(b, now.at[b], true);
                if (mean > most) {
                    found = b;
                    most = mean;
                }
            }
            return found;
        }

        // A dead beast's worth is 0, so the sum grows most without the beast whose worth is least.
        int beastBetterDead() {
            int found = NOTHING;
            long least = 0;
            for (int b = 0; b < land.beasts; b++) {
                long worth = worthIn(b, now.at[b]);
                if (worth < least) {
                    found = b;
                    least = worth;
                }
            }
            return found;
        }

        int leastMood(int b, int l) {
            for (int mood = 0; mood <= MOST_MOOD; mood++) {
                int hold = holdBy(land.kind[b], mood, now.wet);
                if (worthBy(b, land.who[l], now.strong[l], hold) > 0) {
                    return mood;
                }
            }
            return NOTHING;
        }

        int leastWeeks() {
            for (int weeks = 0; weeks <= MOST_WEEKS; weeks++) {
                if (!anyGainsByHorse(weeks)) {
                    return weeks;
                }
            }
            return NOTHING;
        }

        private boolean anyGainsByHorse(int weeks) {
            for (int b = 0; b < land.beasts; b++) {
                if (worthBy(b, HORSE, weeks, holdOf(b)) > 0) {
                    return true;
                }
            }
            return false;
        }

        /** The upper or the lower whole, in lowest terms, of so much over full(). */
        long told(long overFull, boolean lower) {
            long full = full();
            long common = commonDivisor(Math.abs(overFull), full);
            long part = lower ? full : overFull;
            return common > 1 ? part / common : part;
        }

        private static long commonDivisor(long a, long b) {
            long greater = a;
            long less = b;
            // Two rounds halve the numbers at least: 128 are enough for any long.
            for (int round = 0; round < 128 && less != 0; round++) {
                long left = greater % less;
                greater = less;
                less = left;
            }
            return greater;
        }
    }

    /** The foe opens a lane. */
    private static final class Game {
        private final Land land;
        private final Stand now;
        private final Odds odds;
        private final long[] worths = new long[MOST_LANES];
        private long worthInOpen;

        Game(Land land, Stand now, Odds odds) {
            this.land = land;
            this.now = now;
            this.odds = odds;
        }

        private long gainByOpening(int opened) {
            long gain = 0;
            for (int b = 0; b < land.beasts; b++) {
                if (now.at[b] == opened) {
                    gain += odds.worthInOpen(b) - odds.worthIn(b, opened);
                }
            }
            return gain;
        }

        int laneBestOpened() {
            int found = NOTHING;
            long least = 0;
            for (int l = 0; l < land.lanes; l++) {
                long gain = gainByOpening(l);
                if (gain < least) {
                    found = l;
                    least = gain;
                }
            }
            return found;
        }

        void weigh(int b) {
            worthInOpen = odds.worthInOpen(b);
            for (int l = 0; l < land.lanes; l++) {
                worths[l] = odds.worthIn(b, l);
            }
        }

        private long worthIfOpened(int l, int opened) {
            return l == opened ? worthInOpen : worths[l];
        }

        private boolean isRest(int l, int opened) {
            long worth = worthIfOpened(l, opened);
            for (int other = 0; other < land.lanes; other++) {
                if (worthIfOpened(other, opened) > worth || worthIfOpened(l, other) < worth) {
                    return false;
                }
            }
            return true;
        }

        int countRests() {
            int count = 0;
            for (int l = 0; l < land.lanes; l++) {
                for (int opened = 0; opened < land.lanes; opened++) {
                    count += isRest(l, opened) ? 1 : 0;
                }
            }
            return count;
        }

        int firstRest() {
            for (int l = 0; l < land.lanes; l++) {
                for (int opened = 0; opened < land.lanes; opened++) {
                    if (isRest(l, opened)) {
                        return 10 * l + opened;
                    }
                }
            }
            return NOTHING;
        }
    }

    /** Where all should be placed. */
    private static final class Placing {
        private static final int SETS = 1 << MOST_LANES;

        private final Land land;
        private final Stand now;
        private final Odds odds;
        private final long[] worths = new long[MOST_LANES];
        // For a beast and a set of lanes taken ahead of it: the most that it and those behind it bring.
        private final long[] most = new long[(MOST_BEASTS + 1) * SETS];
        private final int[] lanes = new int[MOST_BEASTS];

        Placing(Land land, Stand now, Odds odds) {
            this.land = land;
            this.now = now;
            this.odds = odds;
        }

        void settle() {
            int sets = 1 << land.lanes;
            for (int taken = 0; taken < sets; taken++) {
                most[land.beasts * SETS + taken] = 0;
            }
            for (int b = land.beasts - 1; b >= 0; b--) {
                findWorths(b);
                for (int taken = 0; taken < sets; taken++) {
                    most[b * SETS + taken] = mostFrom(b, taken);
                }
            }
            int taken = 0;
            for (int b = 0; b < land.beasts; b++) {
                findWorths(b);
                lanes[b] = firstLaneFor(b, taken);
                taken |= lanes[b] == NOTHING ? 0 : 1 << lanes[b];
            }
        }

        private void findWorths(int b) {
            for (int l = 0; l < land.lanes; l++) {
                worths[l] = odds.worthIn(b, l);
            }
        }

        private boolean isFree(int b, int l, int taken) {
            return !now.isDead(b) && (taken >> l & 1) == 0;
        }

        private long withLane(int b, int l, int taken) {
            return worths[l] + most[(b + 1) * SETS + (taken | 1 << l)];
        }

        private long mostFrom(int b, int taken) {
            long best = most[(b + 1) * SETS + taken];
            for (int l = 0; l < land.lanes; l++) {
                if (isFree(b, l, taken)) {
                    best = Math.max(best, withLane(b, l, taken));
                }
            }
            return best;
        }

        // The first lane that still allows the greatest sum makes the first of like placings.
        private int firstLaneFor(int b, int taken) {
            for (int l = 0; l < land.lanes; l++) {
                if (isFree(b, l, taken) && withLane(b, l, taken) == most[b * SETS + taken]) {
                    return l;
                }
            }
            return NOTHING;
        }

        int laneFor(int b) {
            return land.hasBeast(b) ? lanes[b] : NOTHING;
        }

        long greatestSum() {
            return most[0];
        }

        int livingLeftOut() {
            int count = 0;
            for (int b = 0; b < land.beasts; b++) {
                count += lanes[b] == NOTHING && !now.isDead(b) ? 1 : 0;
            }
            return count;
        }
    }

    /** Marches over the passes. */
    private static final class Marching {
        private final Land land;
        private final int[] walked = new int[MOST_CITIES];
        private final int[] way = new int[MOST_CITIES];
        private int cities;
        private int come;

        Marching(Land land) {
            this.land = land;
        }

        private static int lostOn(int many, int loss) {
            return (many * loss + 99) / 100;
        }

        int citiesOnWay() {
            return cities;
        }

        int cityOnWay(int i) {
            return i >= 0 && i < cities ? way[i] : NONE;
        }

        int mostThatCome(int from, int to, int many) {
            cities = 0;
            come = NOTHING;
            walk(from, to, many, 0, 1 << from);
            return come;
        }

        // Cities are tried by their numbers, so the first of like ways is the one that is kept.
        private void walk(int city, int to, int many, int depth, int seen) {
            if (depth >= MOST_CITIES) {
                return;
            }
            walked[depth] = city;
            if (city == to) {
                keepIfBetter(many, depth + 1);
                return;
            }
            for (int next = 0; next < land.cities; next++) {
                int loss = land.lossBetween(city, next);
                if (loss != NONE && (seen >> next & 1) == 0) {
                    walk(next, to, many - lostOn(many, loss), depth + 1, seen | 1 << next);
                }
            }
        }

        private void keepIfBetter(int many, int length) {
            if (many > come) {
                come = many;
                cities = length;
                System.arraycopy(walked, 0, way, 0, Math.min(length, MOST_CITIES));
            }
        }

        int citiesFrom(int from) {
            int bits = 1 << from;
            for (int round = 0; round < land.cities; round++) {
                for (int city = 0; city < land.cities; city++) {
                    bits |= (bits >> city & 1) == 1 ? neighboursOf(city) : 0;
                }
            }
            return bits;
        }

        private int neighboursOf(int city) {
            int bits = 0;
            for (int other = 0; other < land.cities; other++) {
                bits |= land.lossBetween(city, other) != NONE ? 1 << other : 0;
            }
            return bits;
        }

        int dearestPass(int from, int to, int many) {
            mostThatCome(from, to, many);
            int found = NOTHING;
            int most = 0;
            int left = many;
            for (int i = 0; i + 1 < cities; i++) {
                int lost = lostOn(left, land.lossBetween(way[i], way[i + 1]));
                if (lost > most) {
                    found = 10 * way[i] + way[i + 1];
                    most = lost;
                }
                left -= lost;
            }
            return found;
        }

        // When more set out no fewer come, so the least is found by halving.
        int leastThatSetOut(int from, int to, int wanted) {
            if (mostThatCome(from, to, MOST_MARCHING) < wanted) {
                return NOTHING;
            }
            int least = 0;
            int enough = MOST_MARCHING;
            for (int round = 0; round < MOST_MARCHING && least < enough; round++) {
                int middle = (least + enough) / 2;
                if (mostThatCome(from, to, middle) >= wanted) {
                    enough = middle;
                } else {
                    least = middle + 1;
                }
            }
            return enough;
        }
    }

    /** Whose trumpet it was. */
    private static final class Trumpets {
        private final Land land;
        private final Stand now;
        private final Odds odds;
        private final int[] turns = new int[MOST_BEASTS];
        private final int[] setsWith = new int[MOST_BEASTS];
        private int sets;
        private int inSome;
        private int inAll;

        Trumpets(Land land, Stand now, Odds odds) {
            this.land = land;
            this.now = now;
            this.odds = odds;
        }

        int turnBy(int b) {
            if (now.isDead(b)) {
                return 0;
            }
            int bits = 0;
            for (int other = 0; other < land.beasts; other++) {
                int apart = Math.abs(now.at[other] - now.at[b]);
                if (apart <= 1 && !now.isDead(other) && odds.holdOf(other) < 50) {
                    bits |= 1 << other;
                }
            }
            return bits;
        }

        private int turnBySet(int set) {
            int bits = 0;
            for (int b = 0; b < land.beasts; b++) {
                bits |= (set >> b & 1) == 1 ? turns[b] : 0;
            }
            return bits;
        }

        void findSets() {
            sets = 0;
            inSome = 0;
            inAll = (1 << land.beasts) - 1;
            for (int b = 0; b < land.beasts; b++) {
                turns[b] = turnBy(b);
                setsWith[b] = 0;
            }
            for (int set = 1; set < 1 << land.beasts; set++) {
                if ((set & now.dead) == 0 && turnBySet(set) == land.turned) {
                    count(set);
                }
            }
            inAll = sets == 0 ? 0 : inAll;
        }

        private void count(int set) {
            sets++;
            inSome |= set;
            inAll &= set;
            for (int b = 0; b < land.beasts; b++) {
                setsWith[b] += set >> b & 1;
            }
        }

        int bestToAsk() {
            int found = NOTHING;
            int fewest = sets;
            for (int b = 0; b < land.beasts && sets > 0; b++) {
                int left = Math.max(setsWith[b], sets - setsWith[b]);
                if (found == NOTHING || left < fewest) {
                    found = b;
                    fewest = left;
                }
            }
            return found;
        }
    }

    /** A battle by draws. */
    private static final class Fight {
        private final Land land;
        private final Stand now;
        private final Odds odds;
        // Battles that are only asked for leave the foot as they are, so they fight with these.
        private final int[] left = new int[MOST_LANES];
        private int drawn;
        private int foeHarm;
        private int ownHarm;
        private int gotAcross;
        private int foeHarmInAll;
        private int ownHarmInAll;
        private int wins;
        private final int[] crossings = new int[MOST_BEASTS];

        Fight(Land land, Stand now, Odds odds) {
            this.land = land;
            this.now = now;
            this.odds = odds;
        }

        void fightFrom(int firstSeed) {
            System.arraycopy(now.strong, 0, left, 0, MOST_LANES);
            drawn = firstSeed;
            foeHarm = 0;
            ownHarm = 0;
            gotAcross = 0;
            for (int b = 0; b < land.beasts; b++) {
                if (!now.isDead(b)) {
                    charge(b);
                }
            }
        }

        void leaveBehind() {
            System.arraycopy(left, 0, now.strong, 0, MOST_LANES);
            now.drawn = drawn;
        }

        void fightMany(int firstSeed, int many) {
            foeHarmInAll = 0;
            ownHarmInAll = 0;
            wins = 0;
            for (int b = 0; b < land.beasts; b++) {
                crossings[b] = 0;
            }
            drawn = firstSeed;
            for (int i = 0; i < many; i++) {
                fightFrom(drawn);
                foeHarmInAll += foeHarm;
                ownHarmInAll += ownHarm;
                wins += foeHarm > ownHarm ? 1 : 0;
                for (int b = 0; b < land.beasts; b++) {
                    crossings[b] += gotAcross >> b & 1;
                }
            }
        }

        private void charge(int b) {
            int force = odds.forceOf(b);
            if (!holdsAllSteps(odds.holdOf(b))) {
                ownHarm += Odds.turningHarm(force);
                return;
            }
            gotAcross |= 1 << b;
            int l = now.at[b];
            int foe = Odds.foeHarm(land.kind[b], force, land.who[l], left[l]);
            foeHarm += foe;
            ownHarm += Odds.ownHarm(land.kind[b], force, land.who[l], left[l]);
            if (land.who[l] == FOOT) {
                left[l] -= foe;
            }
        }

        private boolean holdsAllSteps(int hold) {
            for (int step = 0; step < land.deep; step++) {
                drawn = (75 * drawn + 74) % 65_537;
                if (drawn % 100 >= hold) {
                    return false;
                }
            }
            return true;
        }
    }
}
