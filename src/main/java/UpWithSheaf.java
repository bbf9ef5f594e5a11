/**
 * Up with a sheaf: throwers toss a sheaf over a bar that rises. The words (THE TEXT, THE BAR, ON, OVER,
 * SPARED, OUT, ..) are those of the document, as are the refusals.
 */
public final class UpWithSheaf {
    public static final int UNKNOWN = -1, OUTSIDE = -2, STATE = -3, FULL = -4, NONE = -9;

    private static final int MOST_BYTES = 16;
    private static final int MOST_AT_ONCE = 8;
    private static final int MOST_THROWERS = 4;
    private static final int HIGHEST = 11;
    private static final int MOST_ODDS = 9;
    private static final int OUT_BY = 3;
    private static final int MOST_ACTS = 16;
    private static final int MOST_JUDGED = 8;
    private static final int SLOTS = 2;
    private static final int MOST_AHEAD = 4;
    private static final int MOST_SHEETS = 6;
    private static final int MOST_SHEET_MISSES = 18;

    // At each height a third try is over, or it is the third miss running: no look ahead has more tries.
    private static final int MOST_TRIES_AHEAD = MOST_AHEAD * OUT_BY;

    // Far above any fair: 4 throwers, 12 heights, 3 tries at each.
    private static final int MOST_FAIR_TRIES = 1000;

    private static final int LAST_MARK = 8;
    private static final int LAST_COUNT = 8;

    private static final int HOW_IN = 0, HOW_OVER = 1, HOW_SPARED = 2, HOW_OUT = 3;
    private static final int ACT_MISS = 0, ACT_OVER = 1, ACT_SPARE = 2;

    private static final int TAKEN = 0;

    private static final long SEED_TIMES = 6364136223846793005L;
    private static final long SEED_AND = 1442695040888963407L;
    private static final int SEED_SHIFT = 33;

    private static final long[] TENS = {
        1L, 10L, 100L, 1000L, 10000L, 100000L, 1000000L, 10000000L, 100000000L, 1000000000L,
        10000000000L, 100000000000L, 1000000000000L
    };

    private final Text text;
    private final Contest contest;
    private final Contest tried;
    private final Acts acts;
    private final Contest[] slots;
    private final boolean[] isKept;
    private final Thrower[] path;
    private final Sheets counter;
    private long theSeed;

    public UpWithSheaf() {
        text = new Text();
        contest = new Contest();
        tried = new Contest();
        acts = new Acts();
        slots = new Contest[SLOTS];
        for (int i = 0; i < SLOTS; i++) slots[i] = new Contest();
        isKept = new boolean[SLOTS];
        path = new Thrower[MOST_TRIES_AHEAD + 1];
        for (int i = 0; i <= MOST_TRIES_AHEAD; i++) path[i] = new Thrower();
        counter = new Sheets();
        theSeed = 0L;
    }

    // ---- the field

    public int write(int n, long v) {
        if (n < 1 || n > MOST_AT_ONCE) return OUTSIDE;
        if (text.length + n > MOST_BYTES) return FULL;
        text.append(n, v);
        return text.length;
    }

    public int wipe() {
        int was = text.length;
        text.length = 0;
        return was;
    }

    public int fault() {
        return text.firstFault();
    }

    public int field() {
        if (text.firstFault() != NONE) return STATE;
        contest.startFrom(text);
        acts.forget();
        for (int i = 0; i < SLOTS; i++) isKept[i] = false;
        return contest.size;
    }

    public int thrower(int thrower, int what) {
        if (!contest.knows(thrower)) return UNKNOWN;
        if (what < 0 || what > LAST_MARK) return OUTSIDE;
        return contest.throwers[thrower].told(what);
    }

    public int on() {
        return contest.turn;
    }

    public int rank(int thrower) {
        if (!contest.knows(thrower)) return UNKNOWN;
        return contest.betterThan(contest.throwers[thrower]);
    }

    public int odds(int thrower, int height) {
        if (!contest.knows(thrower)) return UNKNOWN;
        if (height < 0 || height > HIGHEST) return OUTSIDE;
        return contest.throwers[thrower].oddsAt(height, 0);
    }

    // ---- acts

    public int toss(boolean over) {
        return act(over ? ACT_OVER : ACT_MISS);
    }

    public int spare() {
        return act(ACT_SPARE);
    }

    private int act(int figure) {
        if (contest.isEnded()) return STATE;
        acts.remember(contest);
        contest.act(figure);
        return contest.turn;
    }

    public int undo() {
        if (acts.size == 0) return STATE;
        acts.takeBack(contest);
        return acts.size;
    }

    public int judge(int n, int row) {
        if (n < 1 || n > MOST_JUDGED || row < 0 || row >= TENS[n]) return OUTSIDE;
        tried.copyFrom(contest);
        for (int place = 0; place < n; place++) {
            int figure = figureOf(row, n - 1 - place);
            if (tried.isEnded() || figure > ACT_SPARE) return place;
            tried.act(figure);
        }
        return NONE;
    }

    private static int figureOf(int row, int behind) {
        int rest = row;
        for (int i = 0; i < behind; i++) rest /= 10;
        return rest % 10;
    }

    // ---- looked ahead

    public int clears(int thrower, boolean upper) {
        if (!contest.knows(thrower)) return UNKNOWN;
        Thrower one = contest.throwers[thrower];
        if (one.isOut()) return STATE;
        long whole = Ahead.wholeOf(one);
        return (int) leastTerms(whole - Ahead.failing(one, contest.bar), whole, upper);
    }

    public long mean(int thrower, int n, boolean upper) {
        int refusal = refusalAhead(thrower, n);
        if (refusal != TAKEN) return refusal;
        Thrower one = contest.throwers[thrower];
        long above = Ahead.greatest(one, contest.bar, n, 0, one.running, 0, 0);
        return leastTerms(above, TENS[MOST_TRIES_AHEAD], upper);
    }

    public int wise(int thrower, int n) {
        int refusal = refusalAhead(thrower, n);
        if (refusal != TAKEN) return refusal;
        Thrower one = contest.throwers[thrower];
        long trying = Ahead.byTrying(one, contest.bar, n, 0, one.running, 0, 0);
        long sparing = Ahead.bySparing(one, contest.bar, n, 0, one.running, 0, 0);
        return trying >= sparing ? 1 : 0;
    }

    public long first(int thrower, int n, boolean upper) {
        int refusal = refusalAhead(thrower, n);
        if (refusal != TAKEN) return refusal;
        path[0].copyFrom(contest.throwers[thrower]);
        long above = Ahead.unbeaten(contest, thrower, path, n, 0, 0);
        return leastTerms(above, TENS[MOST_TRIES_AHEAD], upper);
    }

    public int alone(int thrower, int other, boolean upper) {
        if (!contest.knows(thrower) || !contest.knows(other)) return UNKNOWN;
        if (thrower == other) return OUTSIDE;
        Thrower one = contest.throwers[thrower];
        Thrower two = contest.throwers[other];
        if (one.isOut() || two.isOut()) return STATE;
        long wholeOne = Ahead.wholeOf(one);
        long wholeTwo = Ahead.wholeOf(two);
        long failOne = Ahead.failing(one, contest.bar);
        long failTwo = Ahead.failing(two, contest.bar);
        long above = (wholeOne - failOne) * failTwo + (wholeTwo - failTwo) * failOne;
        return (int) leastTerms(above, wholeOne * wholeTwo, upper);
    }

    /** Why a look ahead over n heights is refused; TAKEN: it is not. */
    private int refusalAhead(int thrower, int n) {
        if (!contest.knows(thrower)) return UNKNOWN;
        if (n < 1 || n > MOST_AHEAD || contest.bar + n - 1 > HIGHEST) return OUTSIDE;
        return contest.throwers[thrower].isOut() ? STATE : TAKEN;
    }

    private static long leastTerms(long above, long below, boolean upper) {
        long common = commonDivisor(above, below);
        long part = upper ? above : below;
        return common > 1 ? part / common : part;
    }

    private static long commonDivisor(long a, long b) {
        long greater = a;
        long less = b;
        // Euclid's steps on two longs are fewer than 100.
        for (int i = 0; i < 100 && less != 0; i++) {
            long left = greater % less;
            greater = less;
            less = left;
        }
        return greater;
    }

    // ---- sheets, fairs

    public int sheets(int n, int k, int m) {
        if (n < 1 || n > MOST_SHEETS || k < 0 || k > n || m < 0 || m > MOST_SHEET_MISSES) return OUTSIDE;
        return counter.such(n, k, m);
    }

    public long seed(long v) {
        long was = theSeed;
        theSeed = v;
        return was;
    }

    public int fair() {
        tried.copyFrom(contest);
        for (int i = 0; i < MOST_FAIR_TRIES && !tried.isEnded(); i++) {
            theSeed = theSeed * SEED_TIMES + SEED_AND;
            long drawn = (theSeed >>> SEED_SHIFT) % 10;
            tried.act(drawn < tried.oddsOfTurn() ? ACT_OVER : ACT_MISS);
        }
        return tried.leaders();
    }

    // ---- slots

    public int keep(int slot) {
        if (slot < 0 || slot >= SLOTS) return UNKNOWN;
        slots[slot].copyFrom(contest);
        isKept[slot] = true;
        return contest.bar;
    }

    public int again(int slot) {
        if (slot < 0 || slot >= SLOTS) return UNKNOWN;
        if (!isKept[slot]) return STATE;
        contest.copyFrom(slots[slot]);
        acts.forget();
        return contest.bar;
    }

    public int count(int what) {
        if (what < 0 || what > LAST_COUNT) return OUTSIDE;
        switch (what) {
            case 0: return text.length;
            case 1: return contest.size;
            case 2: return contest.bar;
            case 3: return contest.notOut();
            case 4: return contest.who(HOW_OVER);
            case 5: return contest.who(HOW_SPARED);
            case 6: return acts.size;
            case 7: return contest.isEnded() ? 1 : 0;
            default: return contest.leaders();
        }
    }

    /** THE TEXT: bytes, and where they stop being a FIELD. */
    private static final class Text {
        private static final int HEAD = 2, EACH = 3;

        final int[] bytes = new int[MOST_BYTES];
        int length;

        void append(int n, long v) {
            for (int left = n - 1; left >= 0; left--) {
                if (length < 0 || length >= MOST_BYTES) return;
                bytes[length] = (int) (v >>> (8 * left)) & 0xFF;
                length++;
            }
        }

        int firstFault() {
            for (int place = 0; place < length && place < MOST_BYTES; place++) {
                if (!canStand(place, bytes[place])) return place;
            }
            if (length < HEAD || (length - HEAD) % EACH != 0) return length;
            return NONE;
        }

        // What may stand at a place hangs on no byte but its own: all fields have one shape.
        private static boolean canStand(int place, int sign) {
            if (place == 0) return sign == 'U';
            if (place == 1) return sign >= '0' && sign <= '9';
            if (place >= HEAD + EACH * MOST_THROWERS) return false;
            int part = (place - HEAD) % EACH;
            if (part == 0) return sign == 'T';
            return sign >= (part == 1 ? '0' : '1') && sign <= '9';
        }

        int throwersTold() {
            return length < HEAD ? 0 : Math.min((length - HEAD) / EACH, MOST_THROWERS);
        }

        int barTold() {
            return figureAt(1);
        }

        int strengthTold(int number) {
            return figureAt(HEAD + EACH * number + 1);
        }

        int windTold(int number) {
            return figureAt(HEAD + EACH * number + 2);
        }

        private int figureAt(int place) {
            return place >= 0 && place < length && place < MOST_BYTES ? bytes[place] - '0' : 0;
        }
    }

    /** A THROWER: what it was told with, its MARKS, and how it is at this HEIGHT. */
    private static final class Thrower {
        int strength;
        int wind;
        int tries;
        int running;
        int best;
        int there;
        int misses;
        int how;
        int here;

        Thrower() {
            start(0, 1);
        }

        void start(int toldStrength, int toldWind) {
            strength = toldStrength;
            wind = toldWind;
            tries = 0;
            running = 0;
            best = NONE;
            there = NONE;
            misses = 0;
            how = HOW_IN;
            here = 0;
        }

        void copyFrom(Thrower other) {
            strength = other.strength;
            wind = other.wind;
            tries = other.tries;
            running = other.running;
            best = other.best;
            there = other.there;
            misses = other.misses;
            how = other.how;
            here = other.here;
        }

        boolean isOut() {
            return how == HOW_OUT;
        }

        boolean mayTry() {
            return how == HOW_IN;
        }

        void attempt(boolean over, int height) {
            tries++;
            if (over) {
                best = height;
                there = here;
                running = 0;
                how = HOW_OVER;
                return;
            }
            here++;
            misses++;
            running++;
            if (running >= OUT_BY) how = HOW_OUT;
        }

        void rest() {
            how = HOW_SPARED;
        }

        void startHeight() {
            here = 0;
            if (how != HOW_OUT) how = HOW_IN;
        }

        /** ODDS at a height, if it had thrown so many more times. */
        int oddsAt(int height, int more) {
            int tired = wind > 0 ? (tries + more) / wind : 0;
            int tenths = MOST_ODDS + strength - height - tired;
            return Math.max(0, Math.min(MOST_ODDS, tenths));
        }

        boolean isBetterThan(Thrower other) {
            if (best != other.best) return best > other.best;
            if (there != other.there) return there < other.there;
            return misses < other.misses;
        }

        int told(int what) {
            switch (what) {
                case 0: return strength;
                case 1: return wind;
                case 2: return tries;
                case 3: return running;
                case 4: return best;
                case 5: return there;
                case 6: return misses;
                case 7: return how;
                default: return here;
            }
        }
    }

    /** THE BAR, who is ON, and all THROWERS: what acts change, what slots keep. */
    private static final class Contest {
        final Thrower[] throwers = new Thrower[MOST_THROWERS];
        int size;
        int bar;
        int turn;

        Contest() {
            for (int i = 0; i < MOST_THROWERS; i++) throwers[i] = new Thrower();
            size = 0;
            bar = 0;
            turn = NONE;
        }

        void startFrom(Text field) {
            size = field.throwersTold();
            bar = field.barTold();
            for (int i = 0; i < size; i++) throwers[i].start(field.strengthTold(i), field.windTold(i));
            turn = nextBehind(size - 1);
        }

        void copyFrom(Contest other) {
            size = other.size;
            bar = other.bar;
            turn = other.turn;
            for (int i = 0; i < size; i++) throwers[i].copyFrom(other.throwers[i]);
        }

        boolean knows(int number) {
            return number >= 0 && number < size;
        }

        boolean isEnded() {
            return !knows(turn);
        }

        void act(int figure) {
            if (!knows(turn)) return;
            Thrower one = throwers[turn];
            if (figure == ACT_SPARE) one.rest();
            else one.attempt(figure == ACT_OVER, bar);
            turn = nextBehind(turn);
            if (turn == NONE && bar < HIGHEST && notOut() != 0) raise();
        }

        private void raise() {
            bar++;
            for (int i = 0; i < size; i++) throwers[i].startHeight();
            turn = nextBehind(size - 1);
        }

        // Behind the last one the least is next, so this finds who begins a height too.
        private int nextBehind(int number) {
            for (int i = 1; i <= size; i++) {
                int next = number + i;
                if (next >= size) next -= size;
                if (knows(next) && throwers[next].mayTry()) return next;
            }
            return NONE;
        }

        int oddsOfTurn() {
            return knows(turn) ? throwers[turn].oddsAt(bar, 0) : 0;
        }

        int betterThan(Thrower one) {
            int better = 0;
            for (int i = 0; i < size; i++) {
                if (throwers[i].isBetterThan(one)) better++;
            }
            return better;
        }

        int leaders() {
            int bits = 0;
            for (int i = 0; i < size; i++) {
                if (betterThan(throwers[i]) == 0) bits |= 1 << i;
            }
            return bits;
        }

        int who(int how) {
            int bits = 0;
            for (int i = 0; i < size; i++) {
                if (throwers[i].how == how) bits |= 1 << i;
            }
            return bits;
        }

        int notOut() {
            return ((1 << size) - 1) & ~who(HOW_OUT);
        }
    }

    /** THE ROW of ACTS: how all was ahead of each, in a ring, so that the first one is forgotten. */
    private static final class Acts {
        final Contest[] ahead = new Contest[MOST_ACTS];
        int size;
        private int next;

        Acts() {
            for (int i = 0; i < MOST_ACTS; i++) ahead[i] = new Contest();
            size = 0;
            next = 0;
        }

        void forget() {
            size = 0;
            next = 0;
        }

        void remember(Contest contest) {
            ahead[next].copyFrom(contest);
            next = next + 1 < MOST_ACTS ? next + 1 : 0;
            if (size < MOST_ACTS) size++;
        }

        void takeBack(Contest contest) {
            next = next > 0 ? next - 1 : MOST_ACTS - 1;
            contest.copyFrom(ahead[next]);
            size--;
        }
    }

    /**
     * Looking ahead. A value behind so many tries is told over 10 to the power of the tries that are left of
     * MOST_TRIES_AHEAD: so every sum is one of whole numbers, and fits a long.
     */
    private static final class Ahead {
        /** The tenths of all tries till it would be OUT, multiplied. */
        static long wholeOf(Thrower one) {
            long whole = 1;
            for (int running = one.running; running < OUT_BY; running++) whole *= 10;
            return whole;
        }

        /** The part of wholeOf by which all these tries miss. */
        static long failing(Thrower one, int bar) {
            long part = 1;
            int more = 0;
            for (int running = one.running; running < OUT_BY; running++) {
                part *= 10 - one.oddsAt(bar, more);
                more++;
            }
            return part;
        }

        private static long greatest(Thrower one, int bar, int n, int step, int running, int tries, int last) {
            if (step >= n || running >= OUT_BY || tries >= MOST_TRIES_AHEAD) return last * unitsLeft(tries);
            long trying = byTrying(one, bar, n, step, running, tries, last);
            return Math.max(trying, bySparing(one, bar, n, step, running, tries, last));
        }

        private static long byTrying(Thrower one, int bar, int n, int step, int running, int tries, int last) {
            if (tries >= MOST_TRIES_AHEAD) return 0;
            int odds = one.oddsAt(bar + step, tries);
            long over = greatest(one, bar, n, step + 1, 0, tries + 1, step + 1);
            long missed = greatest(one, bar, n, step, running + 1, tries + 1, last);
            return odds * over + (10 - odds) * missed;
        }

        private static long bySparing(Thrower one, int bar, int n, int step, int running, int tries, int last) {
            if (step >= n) return 0;
            return greatest(one, bar, n, step + 1, running, tries, last);
        }

        /** path[tries] is the thrower number behind so many tries; the rows behind it are written anew. */
        private static long unbeaten(Contest contest, int number, Thrower[] path, int n, int step, int tries) {
            if (tries < 0 || tries >= path.length) return 0;
            Thrower one = path[tries];
            if (step >= n || one.isOut() || tries + 1 >= path.length) {
                return noOtherBeats(contest, number, one) ? unitsLeft(tries) : 0;
            }
            int height = contest.bar + step;
            int odds = one.oddsAt(height, 0);
            Thrower then = path[tries + 1];
            then.copyFrom(one);
            then.attempt(true, height);
            then.startHeight();
            long over = unbeaten(contest, number, path, n, step + 1, tries + 1);
            then.copyFrom(one);
            then.attempt(false, height);
            long missed = unbeaten(contest, number, path, n, step, tries + 1);
            return odds * over + (10 - odds) * missed;
        }

        private static boolean noOtherBeats(Contest contest, int number, Thrower one) {
            for (int i = 0; i < contest.size; i++) {
                if (i != number && contest.throwers[i].isBetterThan(one)) return false;
            }
            return true;
        }

        private static long unitsLeft(int tries) {
            int left = MOST_TRIES_AHEAD - tries;
            return left >= 0 && left < TENS.length ? TENS[left] : 0;
        }
    }

    /** SHEETS, counted height by height: rows of how many have so many RUNNING (row) and in all (column). */
    private static final class Sheets {
        private final int[][] ways = new int[OUT_BY][MOST_SHEET_MISSES + 1];
        private final int[][] then = new int[OUT_BY][MOST_SHEET_MISSES + 1];

        int such(int n, int k, int m) {
            empty(ways);
            ways[0][0] = 1;
            int ended = 0;
            for (int step = 1; step <= n; step++) {
                // Who is OUT ahead of the k-th is never OVER at it.
                if (step > k) ended += outHere(m);
                goOn(step <= k, step != k);
            }
            for (int running = 0; running < OUT_BY; running++) ended += ways[running][m];
            return ended;
        }

        private int outHere(int m) {
            int out = 0;
            for (int running = 0; running < OUT_BY; running++) {
                int ahead = m - (OUT_BY - running);
                if (ahead >= 0) out += ways[running][ahead];
            }
            return out;
        }

        private void goOn(boolean mayBeOver, boolean maySpare) {
            empty(then);
            for (int running = 0; running < OUT_BY; running++) {
                for (int behind = running; behind < OUT_BY; behind++) {
                    int made = behind - running;
                    for (int misses = made; misses <= MOST_SHEET_MISSES; misses++) {
                        int such = ways[running][misses - made];
                        if (mayBeOver) then[0][misses] += such;
                        if (maySpare) then[behind][misses] += such;
                    }
                }
            }
            for (int running = 0; running < OUT_BY; running++) {
                System.arraycopy(then[running], 0, ways[running], 0, MOST_SHEET_MISSES + 1);
            }
        }

        private static void empty(int[][] table) {
            for (int running = 0; running < OUT_BY; running++) {
                for (int misses = 0; misses <= MOST_SHEET_MISSES; misses++) table[running][misses] = 0;
            }
        }
    }
}
