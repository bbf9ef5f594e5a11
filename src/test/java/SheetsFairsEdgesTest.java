import java.math.BigInteger;

/** The edges of promises 19 to 21: SHEETS, THE SEED, FAIRS. */
public final class SheetsFairsEdgesTest extends Edges {
    private static final BigInteger TIMES = new BigInteger("6364136223846793005");
    private static final BigInteger AND = new BigInteger("1442695040888963407");
    private static final BigInteger WHOLE = BigInteger.ONE.shiftLeft(64);

    private SheetsFairsEdgesTest() { }

    public static void main(String[] args) {
        oneToSixHeights();
        theLastOver();
        noneTo18Misses();
        refusedWhateverTheOthersAre();
        sheetsOfOneHeight();
        sheetsOfTwoHeights();
        neverOver();
        overAtTheLast();
        overBehindTwoAtMost();
        nothingBehindBeingOut();
        fewerThanThreeRunning();
        allSheetsOfNHeights();
        sheetsOfNobody();
        theSeedAtFirst();
        theSeedIsWhatIsTold();
        fairOfNobody();
        fairWhenEnded();
        theSeedWraps();
        theUpperBits();
        lessThanItsOdds();
        neverByNoTenths();
        fairIsByTurns();
        tillItIsEnded();
        fairAfterFair();
        nothingButTheSeed();
        finish(SheetsFairsEdgesTest.class);
    }

    private static void oneToSixHeights() {
        about("promise 19, \"OUTSIDE: n\" (1 to 6)");
        UpWithSheaf x = new UpWithSheaf();
        for (int n = 1; n <= 6; n++) due("n " + n, x.sheets(n, 0, 0), 1);
        allDue("n", new int[] {0, 7, 8, -1, -6, MIN, MAX}, n -> x.sheets(n, 0, 0), OUTSIDE);
    }

    private static void theLastOver() {
        about("promise 19, \"OUTSIDE: .. k (0 to n)\"");
        UpWithSheaf x = new UpWithSheaf();
        for (int n = 1; n <= 6; n++) {
            for (int k = 0; k <= n; k++) due("k " + k + " of " + n, Math.min(0, x.sheets(n, k, 0)), 0);
            for (int k : new int[] {-1, n + 1, n + 2, MIN, MAX}) due("k " + k + " of " + n, x.sheets(n, k, 0), OUTSIDE);
        }
    }

    private static void noneTo18Misses() {
        about("promise 19, \"OUTSIDE: .. m\" (0 to 18)");
        UpWithSheaf x = new UpWithSheaf();
        for (int n = 1; n <= 6; n++) {
            for (int m = 0; m <= 18; m++) due("m " + m + " of " + n, Math.min(0, x.sheets(n, n, m)), 0);
            for (int m : new int[] {-1, 19, 20, MIN, MAX}) due("m " + m + " of " + n, x.sheets(n, n, m), OUTSIDE);
        }
        for (int n = 1; n <= 6; n++) due("18 are never made", x.sheets(n, n - 1, 18), 0);
    }

    private static void refusedWhateverTheOthersAre() {
        about("promise 19, one number that is not as told is enough, as are all three");
        UpWithSheaf x = new UpWithSheaf();
        int[][] outside = {{0, 0, 0}, {6, 7, 18}, {6, 6, 19}, {0, -1, 0}, {7, 7, 19}, {0, 1, 18}, {7, 7, 18}, {1, 2, 0}};
        for (int[] o : outside) due(o[0] + ", " + o[1] + ", " + o[2], x.sheets(o[0], o[1], o[2]), OUTSIDE);
        due("all at their most", x.sheets(6, 6, 18), 0);
        due("all at their least", x.sheets(1, 0, 0), 1);
    }

    private static void sheetsDue(int n, int k, int... due) {
        UpWithSheaf x = new UpWithSheaf();
        for (int m = 0; m <= 18; m++) {
            due("sheets(" + n + ", " + k + ", " + m + ")", x.sheets(n, k, m), m < due.length ? due[m] : 0);
        }
    }

    private static void sheetsOfOneHeight() {
        about("promise 19, one HEIGHT: OVER behind 0 to 2, SPARED behind 0 to 2, OUT by the third");
        sheetsDue(1, 0, 1, 1, 1, 1);
        sheetsDue(1, 1, 1, 1, 1);
    }

    private static void sheetsOfTwoHeights() {
        about("promise 19, two HEIGHTS: \"the last at which it was OVER is the k-th (0: none)\"");
        sheetsDue(2, 0, 1, 2, 3, 4);
        // OVER behind 0 to 2, then SPARED behind 0 to 2 or OUT by three more.
        sheetsDue(2, 1, 1, 2, 3, 3, 2, 1);
        // OVER or SPARED first, then OVER.
        sheetsDue(2, 2, 2, 4, 6, 2, 1);
    }

    private static void neverOver() {
        about("promise 19, k = 0: fewer than three MISSES spread over all, or the third at one of them");
        for (int n = 1; n <= 6; n++) {
            // Three end it at the j-th: the two ahead of the third spread over j heights.
            int out = 0;
            for (int j = 1; j <= n; j++) out += j * (j + 1) / 2;
            sheetsDue(n, 0, 1, n, n * (n + 1) / 2, out);
        }
    }

    private static void overAtTheLast() {
        about("promise 19, k = n, m = 0: OVER or SPARED at each but the last");
        UpWithSheaf x = new UpWithSheaf();
        for (int n = 1; n <= 6; n++) due("n " + n, x.sheets(n, n, 0), 1 << n - 1);
    }

    private static void overBehindTwoAtMost() {
        about("promise 19, \"OVER behind 0 to 2 MISSES there\": the most MISSES are two at each, three to be OUT");
        UpWithSheaf x = new UpWithSheaf();
        for (int n = 1; n <= 6; n++) {
            due("two at each of " + n, x.sheets(n, n, 2 * n), 1);
            due("one more than two at each of " + n, x.sheets(n, n, 2 * n + 1), 0);
            due("two at each but the last of " + n + ", there OUT", x.sheets(n, n - 1, 2 * n + 1), 1);
            due("one more than these of " + n, x.sheets(n, n - 1, 2 * n + 2), 0);
        }
    }

    private static void nothingBehindBeingOut() {
        about("promise 19, \"OUT by its third RUNNING one, and there is nothing behind that\"");
        // OVER at the first by none; the third miss at one of the five behind it.
        UpWithSheaf x = new UpWithSheaf();
        due("six, k 1, m 3: out, or OVER behind some", x.sheets(6, 1, 3), 35 + 15 + 5);
        due("six, k 1, m 5: OVER behind two, then out", x.sheets(6, 1, 5), 35);
        due("six, k 1, m 6", x.sheets(6, 1, 6), 0);
        due("three, k 0, m 3", x.sheets(3, 0, 3), 10);
    }

    private static void fewerThanThreeRunning() {
        about("promise 19, \"(fewer than three RUNNING)\", those of a SPARED HEIGHT go on");
        UpWithSheaf x = new UpWithSheaf();
        // Not SPARED behind 2, then OVER behind 1, nor 1 and 2.
        due("two, k 2, m 3", x.sheets(2, 2, 3), 2);
        // Both OVER behind 2.
        due("two, k 2, m 4", x.sheets(2, 2, 4), 1);
        due("none was RUNNING ahead of the first", x.sheets(1, 1, 2), 1);
    }

    private static void allSheetsOfNHeights() {
        about("promise 19, all SHEETS of n HEIGHTS together");
        for (int n = 1; n <= 6; n++) {
            UpWithSheaf x = new UpWithSheaf();
            long all = 0;
            for (int k = 0; k <= n; k++) for (int m = 0; m <= 18; m++) all += x.sheets(n, k, m);
            due("n " + n, all, countedFrom(n, 0));
        }
    }

    /** How many sheets there are where so many heights are left and so many misses running. */
    private static long countedFrom(int left, int running) {
        if (left == 0) return 1;
        long all = 1;
        for (int then = running; then < 3; then++) all += countedFrom(left - 1, 0) + countedFrom(left - 1, then);
        return all;
    }

    private static void sheetsOfNobody() {
        about("promise 19, \"(None was RUNNING ahead of the first one.)\", whatever THE FIELD is");
        UpWithSheaf x = Checks.fieldOf("U9T09");
        Checks.acts(x, "MM");
        int[] due = {1, 2, 3, 4, 0};
        for (int m = 0; m < due.length; m++) due("two running, m " + m, x.sheets(2, 0, m), due[m]);
        x.toss(false);
        due("ended", x.sheets(6, 6, 12), 1);
        due("nothing changed", x.count(6), 3);
    }

    private static void theSeedAtFirst() {
        about("promise 20, \"THE SEED, a long; 0 at first\"");
        due("at first", new UpWithSheaf().seed(1), 0);
        UpWithSheaf x = Checks.fieldOf("U9T01");
        x.fair();
        due("three draws from 0", x.seed(1), behind(3, 0));
    }

    private static void theSeedIsWhatIsTold() {
        about("promise 20, \"THE SEED is v: what it was\", for each long");
        UpWithSheaf x = new UpWithSheaf();
        long[] seeds = {1, -1, Long.MAX_VALUE, Long.MIN_VALUE, MAX, MIN, 1L << 31, 1L << 32, 1L << 33, -9, 0};
        long was = 0;
        for (long v : seeds) {
            due("ahead of " + v, x.seed(v), was);
            was = v;
        }
        due("at last", x.seed(0), 0);
    }

    /** THE SEED behind so many draws, by whole numbers that do not wrap of themselves. */
    private static long behind(int draws, long seed) {
        BigInteger x = BigInteger.valueOf(seed);
        for (int i = 0; i < draws; i++) x = x.multiply(TIMES).add(AND).mod(WHOLE);
        return x.longValue();
    }

    private static long leftBy10(long seed) {
        return BigInteger.valueOf(seed).mod(WHOLE).shiftRight(33).mod(BigInteger.TEN).longValueExact();
    }

    private static void fairOfNobody() {
        about("promise 21, nobody tries where there is no THROWER: no bits, THE SEED stays");
        UpWithSheaf x = new UpWithSheaf();
        x.seed(3);
        due("at first", x.fair(), 0);
        due("THE SEED", x.seed(3), 3);
        Checks.put(x, "U9");
        x.field();
        due("U9", x.fair(), 0);
        due("THE SEED", x.seed(3), 3);
    }

    private static void fairWhenEnded() {
        about("promise 21, ENDED already: who has RANK 0, THE SEED stays");
        UpWithSheaf x = Checks.fieldOf("U9T99T99T99");
        Checks.acts(x, "SSSSSSOOS");
        due("ended", x.count(7), 1);
        x.seed(-4);
        due("two", x.fair(), 3);
        due("THE SEED", x.seed(0), -4);
        UpWithSheaf y = Checks.fieldOf("U5T99T99");
        Checks.acts(y, "MMMMMM");
        due("all out", y.fair(), 3);
        due("THE SEED at 0", y.seed(0), 0);
    }

    /** At 9, 0 is OUT behind 8, 1 has two RUNNING: if it is over at once it leads (2), else 0 does (1). */
    private static UpWithSheaf oneDraw(int strength, long seed) {
        UpWithSheaf x = Checks.fieldOf("U8T99T" + strength + "9");
        Checks.acts(x, "OSMMMMM");
        x.seed(seed);
        return x;
    }

    private static void theSeedWraps() {
        about("promise 21, \"(64 bits, wrapping)\"");
        long[] seeds = {0, 1, -1, Long.MAX_VALUE, Long.MIN_VALUE, Long.MAX_VALUE - 1, Long.MIN_VALUE + 1, MAX, MIN,
            1L << 32, 1L << 62, -(1L << 62), 6364136223846793005L, -6364136223846793005L};
        for (long seed : seeds) {
            UpWithSheaf x = oneDraw(0, seed);
            due("on", x.on(), 1);
            due("no tenths", x.odds(1, 9), 0);
            due("fair from " + seed, x.fair(), 1);
            due("one draw behind " + seed, x.seed(0), behind(1, seed));
        }
        UpWithSheaf y = Checks.fieldOf("U9T01T01T01T01");
        y.seed(Long.MAX_VALUE);
        y.fair();
        due("twelve draws", y.seed(0), behind(12, Long.MAX_VALUE));
    }

    private static void theUpperBits() {
        about("promise 21, \"of its upper 31 bits, by 10, what is left\", with the uppermost bit set or not");
        int below = 0;
        int above = 0;
        for (long seed = -200; seed <= 200; seed++) {
            long after = behind(1, seed);
            if (after < 0) below++;
            else above++;
            UpWithSheaf x = oneDraw(5, seed);
            due("five tenths from " + seed, x.fair(), leftBy10(after) < 5 ? 2 : 1);
        }
        due("both kinds were seen", Math.min(1, below) + Math.min(1, above), 2);
    }

    private static void lessThanItsOdds() {
        about("promise 21, \"it is OVER, if .. what is left is less than its ODDS\": one less is, as many is not");
        for (int odds = 0; odds <= 9; odds++) {
            boolean[] seen = new boolean[10];
            for (long seed = 0; seed < 400; seed++) {
                int left = (int) leftBy10(behind(1, seed));
                if (seen[left]) continue;
                seen[left] = true;
                UpWithSheaf x = oneDraw(odds, seed);
                due("odds", x.odds(1, 9), odds);
                due(left + " is left, odds " + odds, x.fair(), left < odds ? 2 : 1);
            }
            for (int left = 0; left <= 9; left++) due(left + " was left", seen[left] ? 1 : 0, 1);
        }
    }

    private static void neverByNoTenths() {
        about("promise 21, ODDS of 0: never OVER, all are OUT behind three draws each");
        UpWithSheaf x = Checks.fieldOf("U9T01T01");
        for (long seed = 1; seed <= 100; seed++) {
            x.seed(seed);
            due("both alike from " + seed, x.fair(), 3);
            due("six draws from " + seed, x.seed(0), behind(6, seed));
        }
    }

    private static void fairIsByTurns() {
        about("promise 21, \"from now on who is ON tries\"");
        for (long seed = 0; seed < 100; seed++) {
            UpWithSheaf x = Checks.fieldOf("U9T09T59");
            Checks.acts(x, "MMM");
            due("on", x.on(), 1);
            x.seed(seed);
            // 1 draws first; if it misses, 0 has its last try, by no tenths; 1 has one more then.
            boolean first = leftBy10(behind(1, seed)) < 5;
            boolean second = leftBy10(behind(3, seed)) < 5;
            boolean over = first || second;
            // Both never over: three misses each.
            due("from " + seed, x.fair(), over ? 2 : 3);
        }
    }

    private static void tillItIsEnded() {
        about("promise 21, \"till it is ENDED\": up to 11, by ODDS that fall with HEIGHT and THROWS");
        Reference r = new Reference();
        for (long seed = -60; seed < 60; seed++) {
            UpWithSheaf x = Checks.fieldOf("U0T93T72T99T55");
            r.wipe();
            r.write(8, 0x5530543933543732L);
            r.write(6, 0x543939543535L);
            r.field();
            x.seed(seed);
            r.seed(seed);
            due("from " + seed, x.fair(), r.fair());
            due("draws from " + seed, x.seed(0), r.seed(0));
        }
    }

    private static void fairAfterFair() {
        about("promise 21, a FAIR goes on from THE SEED as it became");
        UpWithSheaf x = oneDraw(5, 0);
        UpWithSheaf y = Checks.fieldOf("U9T01");
        for (int fairs = 1; fairs <= 50; fairs++) y.fair();
        due("150 draws", y.seed(0), behind(150, 0));
        int first = x.fair();
        long became = x.seed(0);
        due("the same again", x.fair(), first);
        due("the same SEED", x.seed(became), became);
    }

    private static void nothingButTheSeed() {
        about("promise 21, \"(Nothing changes but THE SEED.)\"");
        UpWithSheaf x = Checks.fieldOf("U5T95T99T01");
        Checks.acts(x, "MOM");
        x.keep(1);
        Checks.acts(x, "S");
        for (int fairs = 0; fairs < 20; fairs++) x.fair();
        counts("all as it was", x, 11, 3, 5, 7, 2, 1, 4, 0, 2);
        marks("all as it was", x, 0, 9, 5, 1, 1, NONE, NONE, 1, 2, 1);
        marks("all as it was", x, 1, 9, 9, 1, 0, 5, 0, 0, 1, 0);
        marks("all as it was", x, 2, 0, 1, 1, 1, NONE, NONE, 1, 0, 1);
        due("on", x.on(), 2);
        due("undo", x.undo(), 3);
        due("on behind it", x.on(), 0);
        due("slot 0", x.again(0), STATE);
        due("slot 1", x.again(1), 5);
        due("on as it was kept", x.on(), 0);
    }
}
