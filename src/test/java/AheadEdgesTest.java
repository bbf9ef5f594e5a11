import java.math.BigInteger;

/** The edges of promises 14 to 18: CLEARS, MEAN, WISE, FIRST, ALONE. */
public final class AheadEdgesTest extends Edges {
    private AheadEdgesTest() { }

    public static void main(String[] args) {
        clearsOfWhom();
        clearsOfWhoIsOut();
        clearsByNoChance();
        clearsAtItsGreatest();
        clearsOfEachOdds();
        clearsInLeastTerms();
        clearsByRunning();
        eachTryTires();
        clearsAsIfNeitherOverNorSpared();
        clearsWhenEnded();
        clearsOfWhoIsNotOn();
        refusedAhead("promise 15", (x, who, n) -> x.mean(who, n, true));
        refusedAhead("promise 15, below", (x, who, n) -> x.mean(who, n, false));
        meanOfNone();
        meanOfTheLast();
        meanBySparing();
        meanOfOneHeight();
        meanWithMissesRunning();
        meanOfFourHeights();
        meanIsAlone();
        whatItIsOverAlreadyDoesNotCount();
        refusedAhead("promise 16", (x, who, n) -> x.wise(who, n));
        wiseIfAsGood();
        wiseAtTheLastHeight();
        notWise();
        wiseAsIfNeitherOverNorSpared();
        refusedAhead("promise 17", (x, who, n) -> x.first(who, n, true));
        refusedAhead("promise 17, below", (x, who, n) -> x.first(who, n, false));
        firstOfOne();
        firstIfAlike();
        firstByNoChance();
        firstStopsWhenOut();
        firstKeepsItsBest();
        firstAsIfNotOver();
        firstByMissesAsTheyAre();
        firstTires();
        othersStopAtOnce();
        aloneOfWhom();
        aloneOfOne();
        aloneOfWhoIsOut();
        aloneRefusedInOrder();
        aloneByNoChance();
        justOneOfThem();
        nothingIsChangedAhead();
        finish(AheadEdgesTest.class);
    }

    private interface Ahead {
        long of(UpWithSheaf x, int who, int n);
    }

    private static void clearsDue(String what, UpWithSheaf x, int who, long above, long below) {
        fraction(what, x.clears(who, true), x.clears(who, false), above, below);
    }

    private static void meanDue(String what, UpWithSheaf x, int who, int n, long above, long below) {
        fraction(what, x.mean(who, n, true), x.mean(who, n, false), above, below);
    }

    private static void firstDue(String what, UpWithSheaf x, int who, int n, long above, long below) {
        fraction(what, x.first(who, n, true), x.first(who, n, false), above, below);
    }

    private static void aloneDue(String what, UpWithSheaf x, int one, int two, long above, long below) {
        fraction(what, x.alone(one, two, true), x.alone(one, two, false), above, below);
        fraction(what + ", told the other way", x.alone(two, one, true), x.alone(two, one, false), above, below);
    }

    private static void clearsOfWhom() {
        about("promise 14, \"UNKNOWN\"");
        for (int n = 0; n <= 4; n++) {
            UpWithSheaf x = Checks.fieldOf("U0T09T09T09T09".substring(0, 2 + 3 * n));
            for (int who : noThrower(n)) due(who + " of " + n, x.clears(who, true), UNKNOWN);
            for (int who : noThrower(n)) due(who + " of " + n + ", below", x.clears(who, false), UNKNOWN);
            for (int who = 0; who < n; who++) due(who + " of " + n, x.clears(who, true), 999);
        }
    }

    private static void clearsOfWhoIsOut() {
        about("promise 14, \"STATE: it is OUT\"");
        UpWithSheaf x = Checks.fieldOf("U0T09T99");
        Checks.acts(x, "MOM");
        due("two running", x.clears(0, true), 9);
        x.toss(false);
        due("out", x.clears(0, true), STATE);
        due("out, below", x.clears(0, false), STATE);
        due("the other is not", x.clears(1, true), 999);
        due("UNKNOWN is no thrower's", x.clears(2, true), UNKNOWN);
        Checks.acts(x, "MMM");
        due("both out", x.clears(1, true), STATE);
        due("both out, still", x.clears(0, false), STATE);
    }

    private static void clearsByNoChance() {
        about("promise 14, FRACTIONS have \"below (1 and more)\": no chance is 0 by 1");
        UpWithSheaf x = Checks.fieldOf("U9T01T09");
        clearsDue("no tenths", x, 0, 0, 1);
        Checks.acts(x, "MMM");
        clearsDue("no tenths, two left", x, 0, 0, 1);
        clearsDue("no tenths, one left", x, 1, 0, 1);
    }

    private static void clearsAtItsGreatest() {
        about("promise 14, at most 9 tenths each: 999 by 1000 with three TRIES, 99 by 100, 9 by 10");
        UpWithSheaf x = Checks.fieldOf("U0T99");
        clearsDue("three", x, 0, 999, 1000);
        x.toss(false);
        clearsDue("two", x, 0, 99, 100);
        x.toss(false);
        clearsDue("one", x, 0, 9, 10);
    }

    /** One less what is missed by, told as parts of 10 to the power of the tries. */
    private static void clearsBy(String what, UpWithSheaf x, int who, int... odds) {
        BigInteger missed = BigInteger.ONE;
        BigInteger below = BigInteger.ONE;
        for (int tenths : odds) {
            missed = missed.multiply(BigInteger.valueOf(10 - tenths));
            below = below.multiply(BigInteger.TEN);
        }
        BigInteger above = below.subtract(missed);
        BigInteger common = above.gcd(below);
        clearsDue(what, x, who, above.divide(common).longValueExact(), below.divide(common).longValueExact());
    }

    private static void clearsOfEachOdds() {
        about("promise 14, CLEARS by ODDS of 0 to 9 tenths, \"in least terms\"");
        for (int odds = 0; odds <= 9; odds++) {
            UpWithSheaf x = Checks.fieldOf("U9T" + odds + "9");
            due("tenths", x.odds(0, 9), odds);
            clearsBy("three by " + odds, x, 0, odds, odds, odds);
            x.toss(false);
            clearsBy("two by " + odds, x, 0, odds, odds);
            x.toss(false);
            clearsBy("one by " + odds, x, 0, odds);
        }
    }

    private static void clearsInLeastTerms() {
        about("promise 14, FRACTIONS are told \"in least terms\"");
        UpWithSheaf x = Checks.fieldOf("U4T09");
        clearsDue("one less 0.5 * 0.5 * 0.5", x, 0, 7, 8);
        x.toss(false);
        clearsDue("one less 0.5 * 0.5", x, 0, 3, 4);
        x.toss(false);
        clearsDue("one half", x, 0, 1, 2);
    }

    private static void clearsByRunning() {
        about("promise 14, \"RUNNING ones .. as they are\": those of a lower HEIGHT too");
        UpWithSheaf x = Checks.fieldOf("U3T09");
        Checks.acts(x, "MS");
        clearsDue("one from below", x, 0, 3, 4);
        Checks.acts(x, "MS");
        clearsDue("two from below", x, 0, 2, 5);
        x.toss(true);
        clearsDue("none running", x, 0, 657, 1000);
    }

    private static void eachTryTires() {
        about("promise 14, \"THROWS .. as they are\", each TRY costs a THROW");
        UpWithSheaf x = Checks.fieldOf("U5T01");
        clearsBy("4, 3, 2", x, 0, 4, 3, 2);
        x.toss(false);
        clearsBy("3, 2", x, 0, 3, 2);
        x.toss(false);
        clearsBy("2", x, 0, 2);
        UpWithSheaf y = Checks.fieldOf("U5T02");
        clearsBy("4, 4, 3", y, 0, 4, 4, 3);
        UpWithSheaf z = Checks.fieldOf("U8T01");
        clearsBy("1, then none at least", z, 0, 1, 0, 0);
        UpWithSheaf t = Checks.fieldOf("U7T51");
        clearsBy("7, 6, 5", t, 0, 7, 6, 5);
        UpWithSheaf s = Checks.fieldOf("U7T71");
        clearsBy("9, 8, 7", s, 0, 9, 8, 7);
        UpWithSheaf r = Checks.fieldOf("U7T81");
        clearsBy("9 at most, 9, 8", r, 0, 9, 9, 8);
    }

    private static void clearsAsIfNeitherOverNorSpared() {
        about("promise 14, \"as if it were neither OVER nor SPARED here\"");
        UpWithSheaf x = Checks.fieldOf("U4T09T09T09");
        Checks.acts(x, "OMMS");
        due("over", x.thrower(0, 7), 1);
        due("spared", x.thrower(1, 7), 2);
        clearsDue("over: three left", x, 0, 7, 8);
        clearsDue("spared: one is running", x, 1, 3, 4);
        clearsDue("neither", x, 2, 3, 4);
        UpWithSheaf y = Checks.fieldOf("U4T09T09");
        Checks.acts(y, "MMMMO");
        due("over behind two", y.thrower(0, 7), 1);
        clearsDue("over behind two: three left", y, 0, 7, 8);
    }

    private static void clearsWhenEnded() {
        about("promise 14, \"from THE BAR as it is\", at 11 and ENDED too");
        UpWithSheaf x = Checks.fieldOf("U9T99");
        clearsBy("at 9", x, 0, 9, 9, 9);
        x.spare();
        clearsBy("at 10", x, 0, 8, 8, 8);
        x.spare();
        clearsBy("at 11", x, 0, 7, 7, 7);
        Checks.acts(x, "MO");
        due("ended", x.count(7), 1);
        clearsBy("at 11, over, ended", x, 0, 7, 7, 7);
        x.undo();
        x.spare();
        due("ended too", x.count(7), 1);
        clearsBy("at 11, spared behind a miss, ended", x, 0, 7, 7);
    }

    private static void clearsOfWhoIsNotOn() {
        about("promise 14, \"a THROWER that is not OUT is looked at alone\", be it ON or not");
        UpWithSheaf x = Checks.fieldOf("U4T09T19T29");
        clearsBy("0, on", x, 0, 5, 5, 5);
        clearsBy("1", x, 1, 6, 6, 6);
        clearsBy("2", x, 2, 7, 7, 7);
    }

    /** At each bar and for each n: what is refused, and that nothing else is. */
    private static void refusedAhead(String promise, Ahead call) {
        unknownAhead(promise, call);
        outsideAhead(promise, call);
        aboveElevenAhead(promise, call);
        outAhead(promise, call);
    }

    private static void unknownAhead(String promise, Ahead call) {
        about(promise + ", \"UNKNOWN\", ahead of OUTSIDE");
        for (int size = 0; size <= 4; size++) {
            UpWithSheaf x = Checks.fieldOf("U9T09T09T09T09".substring(0, 2 + 3 * size));
            for (int who : noThrower(size)) {
                for (int n : new int[] {1, 3, 4, 0, 5}) due(who + " of " + size + ", n " + n, call.of(x, who, n), UNKNOWN);
            }
            for (int who = 0; who < size; who++) due(who + " of " + size, Math.min(0, call.of(x, who, 1)), 0);
        }
    }

    private static void outsideAhead(String promise, Ahead call) {
        about(promise + ", n HEIGHTS (1 to 4), else \"OUTSIDE\"");
        UpWithSheaf x = Checks.fieldOf("U0T09");
        for (int n = 1; n <= 4; n++) due("n " + n, Math.min(0, call.of(x, 0, n)), 0);
        for (int n : new int[] {0, 5, 6, -1, 11, 12, MIN, MAX, MAX - 1}) due("n " + n, call.of(x, 0, n), OUTSIDE);
        Checks.acts(x, "SSSS");
        for (int n : new int[] {0, 5, -3, -4, -5, MIN, MAX, MAX - 4}) due("at 4, n " + n, call.of(x, 0, n), OUTSIDE);
    }

    private static void aboveElevenAhead(String promise, Ahead call) {
        about(promise + ", \"above 11\" is OUTSIDE");
        UpWithSheaf x = Checks.fieldOf("U0T09");
        for (int bar = 0; bar <= 12; bar++) {
            int at = Math.min(bar, 11);
            due("bar", x.count(2), at);
            for (int n = 1; n <= 4; n++) {
                due(n + " from " + at, Math.min(0, call.of(x, 0, n)), at + n - 1 > 11 ? OUTSIDE : 0);
            }
            x.spare();
        }
    }

    private static void outAhead(String promise, Ahead call) {
        about(promise + ", \"STATE: it is OUT\", behind OUTSIDE");
        UpWithSheaf x = Checks.fieldOf("U9T09T09");
        Checks.acts(x, "MOM");
        due("two running", Math.min(0, call.of(x, 0, 1)), 0);
        x.toss(false);
        due("bar", x.count(2), 10);
        for (int n = 1; n <= 2; n++) due("out, n " + n, call.of(x, 0, n), STATE);
        for (int n : new int[] {0, 3, 4, 5, -1, MIN, MAX}) due("out, n " + n, call.of(x, 0, n), OUTSIDE);
        due("the other", Math.min(0, call.of(x, 1, 2)), 0);
        Checks.acts(x, "MMM");
        due("ended", x.count(7), 1);
        due("both out", call.of(x, 1, 1), STATE);
        due("UNKNOWN is no thrower's", call.of(x, 2, 1), UNKNOWN);
    }

    private static void meanOfNone() {
        about("promise 15, \"it gains k (0: none)\"");
        UpWithSheaf x = Checks.fieldOf("U9T09");
        for (int n = 1; n <= 3; n++) meanDue("no tenths, n " + n, x, 0, n, 0, 1);
        UpWithSheaf y = Checks.fieldOf("U8T09");
        for (int n = 1; n <= 4; n++) meanDue("0.271 of the first, then no tenths, n " + n, y, 0, n, 271, 1000);
    }

    private static void meanOfTheLast() {
        about("promise 15, \"if the last at which it is OVER is the k-th (from 1), it gains k\"");
        UpWithSheaf x = Checks.fieldOf("U7T09");
        Checks.acts(x, "MM");
        // By 0.2 it is over and has three tries by 0.1 for 2 in place of 1; spared it has 0.1 of 2.
        meanDue("0.2 * (1 + 0.271)", x, 0, 2, 1271, 5000);
        // Of the second alone, by sparing: 2 * 0.999, and of the fourth alone 4 * 0.999.
        UpWithSheaf y = Checks.fieldOf("U0T99");
        meanDue("the second", y, 0, 2, 999, 500);
        meanDue("the third", y, 0, 3, 2997, 1000);
        meanDue("the fourth", y, 0, 4, 999, 250);
    }

    private static void meanBySparing() {
        about("promise 15, \"or SPARE itself at any time\": behind MISSES here too");
        UpWithSheaf x = Checks.fieldOf("U0T99");
        Checks.acts(x, "MM");
        // Trying: 0.9 * (1 + 0.999) is less than 2 * 0.9.
        meanDue("with one try left", x, 0, 2, 9, 5);
        x.undo();
        meanDue("with two left", x, 0, 2, 99, 50);
        UpWithSheaf y = Checks.fieldOf("U7T03");
        // Sparing keeps three throws by 0.1; trying tires it, and comes to as much.
        meanDue("2 * 0.271", y, 0, 2, 271, 500);
    }

    private static void meanOfOneHeight() {
        about("promise 15, n = 1: the mean is CLEARS");
        for (int bar = 0; bar <= 9; bar++) {
            for (int wind = 1; wind <= 4; wind++) {
                UpWithSheaf x = Checks.fieldOf("U" + bar + "T1" + wind);
                for (int missed = 0; missed <= 2; missed++) {
                    meanDue("at " + bar + " behind " + missed, x, 0, 1, x.clears(0, true), x.clears(0, false));
                    x.toss(false);
                }
            }
        }
    }

    private static void meanWithMissesRunning() {
        about("promise 15, RUNNING MISSES and THROWS go on behind a HEIGHT that is spared");
        UpWithSheaf x = Checks.fieldOf("U8T19");
        Checks.acts(x, "MM");
        // Tenths 2 here, 1 at 9: trying has 0.2 * (1 + 0.271), sparing 0.1 * 2.
        meanDue("one try", x, 0, 2, 1271, 5000);
        UpWithSheaf y = Checks.fieldOf("U9T11");
        // Tenths 1 here, none behind a throw; at 10 none.
        meanDue("one tenth", y, 0, 2, 1, 10);
        y.toss(false);
        meanDue("none left", y, 0, 2, 0, 1);
    }

    private static void meanOfFourHeights() {
        about("promise 15, MEAN is a long, in least terms: 4 HEIGHTS, all tries");
        UpWithSheaf x = Checks.fieldOf("U5T09");
        meanDue("four", x, 0, 4, 215187867, 125000000);
        UpWithSheaf y = Checks.fieldOf("U8T39");
        meanDue("four up to 11", y, 0, 4, 215187867, 125000000);
    }

    private static void meanIsAlone() {
        about("promise 15, \"looked at alone\", \"as if it were neither OVER nor SPARED here\"");
        UpWithSheaf x = Checks.fieldOf("U5T09T99T09T09");
        Checks.acts(x, "SOSM");
        meanDue("spared", x, 0, 4, 215187867, 125000000);
        meanDue("spared too", x, 2, 4, 215187867, 125000000);
        // Tenths 9 at each: the fourth alone.
        meanDue("over", x, 1, 4, 999, 250);
    }

    private static void whatItIsOverAlreadyDoesNotCount() {
        about("promises 14, 15, 18, who is OVER here gains nothing by that");
        UpWithSheaf x = Checks.fieldOf("U9T09T09T99");
        Checks.acts(x, "OM");
        due("over", x.thrower(0, 7), 1);
        clearsDue("no tenths", x, 0, 0, 1);
        for (int n = 1; n <= 3; n++) meanDue("no tenths, n " + n, x, 0, n, 0, 1);
        aloneDue("no tenths", x, 0, 1, 0, 1);
        aloneDue("the other one alone", x, 0, 2, 999, 1000);
    }

    private static void wiseIfAsGood() {
        about("promise 16, \"is as good as anything (1)\": as good as sparing is 1");
        UpWithSheaf none = Checks.fieldOf("U9T09");
        for (int n = 1; n <= 3; n++) due("no tenths, n " + n, none.wise(0, n), 1);
        // Sparing: 2 * (1 - 0.9 * 0.9 * 0.9) = 0.542. Trying: 0.2 * (1 + 0.19) + 0.8 * 0.38 = 0.542.
        for (String field : new String[] {"U7T03", "U8T13", "U9T23"}) {
            UpWithSheaf x = Checks.fieldOf(field);
            due("0.542 both ways, " + field, x.wise(0, 2), 1);
            meanDue("0.542, " + field, x, 0, 2, 271, 500);
        }
    }

    private static void wiseAtTheLastHeight() {
        about("promise 16, at one HEIGHT nothing is better than to try");
        for (int bar = 0; bar <= 9; bar++) {
            UpWithSheaf x = Checks.fieldOf("U" + bar + "T01T99");
            for (int acts = 0; acts < 5; acts++) {
                if (x.thrower(0, 7) != 3) due("at " + bar, x.wise(0, 1), 1);
                if (x.thrower(1, 7) != 3) due("at " + bar, x.wise(1, 1), 1);
                x.toss(false);
            }
        }
    }

    private static void notWise() {
        about("promise 16, \"or not (0: SPARE)\"");
        UpWithSheaf x = Checks.fieldOf("U0T99");
        for (int n = 2; n <= 4; n++) due("nine tenths, n " + n, x.wise(0, n), 0);
        Checks.acts(x, "MM");
        // 0.9 * 1.999 = 1.7991 is just less than 1.8.
        due("1.7991 and 1.8", x.wise(0, 2), 0);
        UpWithSheaf y = Checks.fieldOf("U7T09");
        Checks.acts(y, "MM");
        due("0.2542 and 0.2", y.wise(0, 2), 1);
        UpWithSheaf z = Checks.fieldOf("U8T09");
        due("0.271 and nothing", z.wise(0, 2), 1);
    }

    private static void wiseAsIfNeitherOverNorSpared() {
        about("promise 16, \"as if it were neither OVER nor SPARED here\", RUNNING ones as they are");
        UpWithSheaf x = Checks.fieldOf("U7T09T09T99T99");
        Checks.acts(x, "MMOSMM");
        due("0 has two running", x.thrower(0, 3), 2);
        x.spare();
        due("0 has spared", x.thrower(0, 7), 2);
        due("0.2542 and 0.2", x.wise(0, 2), 1);
        due("over: nine tenths at both", x.wise(2, 2), 0);
        due("over: one height", x.wise(2, 1), 1);
        due("spared: nine tenths at both", x.wise(3, 2), 0);
    }

    private static void firstOfOne() {
        about("promise 17, \"nobody is BETTER than it\": a THROWER by itself is first by 1 of 1");
        UpWithSheaf x = Checks.fieldOf("U9T01");
        for (int n = 1; n <= 3; n++) firstDue("n " + n, x, 0, n, 1, 1);
        x.toss(false);
        for (int n = 1; n <= 3; n++) firstDue("behind a miss, n " + n, x, 0, n, 1, 1);
    }

    private static void firstIfAlike() {
        about("promise 17, who is alike is not BETTER");
        UpWithSheaf x = Checks.fieldOf("U8T19T19T09");
        Checks.acts(x, "SO");
        // 1 is over at 8 by none: 0 is alike if it is over at once, by 0.2.
        firstDue("over at once", x, 0, 1, 1, 5);
        firstDue("over already", x, 1, 1, 1, 1);
        UpWithSheaf y = Checks.fieldOf("U9T09T09");
        Checks.acts(y, "MMMMM");
        // Both never over, by three misses each.
        due("0 is out", y.thrower(0, 7), 3);
        firstDue("three misses each", y, 1, 1, 1, 1);
        UpWithSheaf z = Checks.fieldOf("U9T09T09");
        Checks.acts(z, "MMMM");
        firstDue("three misses and two", z, 0, 1, 0, 1);
    }

    private static void firstByNoChance() {
        about("promise 17, no chance is 0 by 1");
        UpWithSheaf x = Checks.fieldOf("U9T09T99T09");
        Checks.acts(x, "SO");
        for (int n = 1; n <= 3; n++) firstDue("n " + n, x, 0, n, 0, 1);
        firstDue("nor the third", x, 2, 1, 0, 1);
    }

    private static void firstStopsWhenOut() {
        about("promise 17, \"it tries on and on at each till it is OUT, then it stops\"");
        UpWithSheaf x = Checks.fieldOf("U7T09T09");
        Checks.acts(x, "MO");
        // Behind its miss it can not be alike at 7: it must be over there (1 - 0.8 * 0.8) and at 8 (1 - 0.9^3).
        firstDue("7 alone", x, 0, 1, 0, 1);
        firstDue("7 and 8: 0.36 * 0.271", x, 0, 2, 2439, 25000);
        firstDue("9 adds nothing", x, 0, 3, 2439, 25000);
        firstDue("nor does 10", x, 0, 4, 2439, 25000);
    }

    private static void firstKeepsItsBest() {
        about("promise 17, \"BEST with its MISSES there .. as they are\" if it is not OVER any more");
        UpWithSheaf x = Checks.fieldOf("U8T99T09");
        Checks.acts(x, "OS");
        due("bar", x.count(2), 9);
        // Whatever it does at 9, 8 by none is its own; 1 has none.
        firstDue("best stays", x, 0, 1, 1, 1);
        // At 9 0 is not over; 1 has no tenths there, so it stays behind.
        firstDue("the other", x, 1, 3, 0, 1);
    }

    private static void firstAsIfNotOver() {
        about("promise 17, who is OVER here tries here again");
        UpWithSheaf x = Checks.fieldOf("U0T09T09T09");
        Checks.acts(x, "OO");
        // Over once more at once it is alike; behind a miss there, or out, 1 is better.
        firstDue("over again at once", x, 0, 1, 9, 10);
        UpWithSheaf y = Checks.fieldOf("U0T09T09T09");
        Checks.acts(y, "OSM");
        firstDue("nobody else is over", y, 0, 1, 1, 1);
    }

    private static void firstByMissesAsTheyAre() {
        about("promise 17, \"MISSES at this HEIGHT .., MISSES as they are\"");
        UpWithSheaf x = Checks.fieldOf("U0T09T09");
        Checks.acts(x, "MMMO");
        due("1 is over behind one", x.thrower(1, 5), 1);
        // 0 has two here already: over here it has two there, out it has none.
        firstDue("two here", x, 0, 1, 0, 1);
        UpWithSheaf y = Checks.fieldOf("U0T09T09T19");
        Checks.acts(y, "MOOOSO");
        due("bar", y.count(2), 1);
        due("on", y.on(), 2);
        // 0 has one in all from 0 on: over at once at 1 it has none there as 1 has, and one more in all.
        firstDue("one in all", y, 0, 1, 0, 1);
        firstDue("none in all", y, 2, 1, 9, 10);
    }

    private static void firstTires() {
        about("promise 17, \"THROWS .. as they are\", each TRY costs a THROW");
        // 1 has no misses: 0 must be over once.
        UpWithSheaf x = Checks.fieldOf("U5T01T09");
        firstDue("4, 3, 2: one less 0.6 * 0.7 * 0.8", x, 0, 1, 83, 125);
        x.toss(false);
        firstDue("3, 2: one less 0.7 * 0.8", x, 0, 1, 11, 25);
        firstDue("out at 5 it stops", x, 0, 4, 11, 25);
        UpWithSheaf y = Checks.fieldOf("U5T01T09");
        Checks.acts(y, "SS");
        firstDue("a sparing costs none: 3, 2, 1 at 6", y, 0, 1, 62, 125);
        // Out at 6 it would have three misses more than 1, so it needs both: over at 5 at once, then by 2, 1, 0
        // (0.4 * 0.28), or at 5 behind a miss, then by 1, 0, 0 (0.6 * 0.3 * 0.1).
        UpWithSheaf z = Checks.fieldOf("U5T01T99T09");
        Checks.acts(z, "SO");
        firstDue("at 5", z, 0, 1, 2, 5);
        firstDue("at 5 and 6", z, 0, 2, 13, 100);
    }

    private static void othersStopAtOnce() {
        about("promise 17, \"the others at once\"");
        UpWithSheaf x = Checks.fieldOf("U0T99T99");
        // The other one has nothing: it is enough to be over once, or never to have a miss.
        firstDue("nobody else tries", x, 0, 1, 999, 1000);
        firstDue("nobody else tries on", x, 1, 4, 999, 1000);
    }

    private static void aloneOfWhom() {
        about("promise 18, \"UNKNOWN: both\"");
        for (int size = 0; size <= 4; size++) {
            UpWithSheaf x = Checks.fieldOf("U0T09T09T09T09".substring(0, 2 + 3 * size));
            for (int who : noThrower(size)) {
                due(who + " ahead, of " + size, x.alone(who, 0, true), UNKNOWN);
                due(who + " behind, of " + size, x.alone(0, who, true), UNKNOWN);
                due(who + " ahead, below", x.alone(who, 0, false), UNKNOWN);
                due(who + " twice", x.alone(who, who, true), UNKNOWN);
            }
            for (int who = 1; who < size; who++) due("0 and " + who, x.alone(0, who, true), 999);
        }
    }

    private static void aloneOfOne() {
        about("promise 18, \"OUTSIDE: both are one\"");
        UpWithSheaf x = Checks.fieldOf("U0T09T09T09T09");
        for (int who = 0; who < 4; who++) {
            due(who + " twice", x.alone(who, who, true), OUTSIDE);
            due(who + " twice, below", x.alone(who, who, false), OUTSIDE);
        }
    }

    private static void aloneOfWhoIsOut() {
        about("promise 18, \"STATE: one is OUT\"");
        UpWithSheaf x = Checks.fieldOf("U0T09T09T09");
        Checks.acts(x, "MSSM");
        // One by 0.9, one by 0.999: 0.9 * 0.001 + 0.1 * 0.999.
        aloneDue("two running", x, 0, 1, 63, 625);
        Checks.acts(x, "MSSM");
        due("ahead", x.alone(0, 1, true), STATE);
        due("ahead, below", x.alone(0, 1, false), STATE);
        due("behind", x.alone(1, 0, true), STATE);
        due("neither", Math.min(0, x.alone(1, 2, true)), 0);
        Checks.acts(x, "MMMM");
        due("both out", x.alone(0, 1, true), STATE);
    }

    private static void aloneRefusedInOrder() {
        about("promise 18, UNKNOWN, OUTSIDE, STATE: \"of several the first\"");
        UpWithSheaf x = Checks.fieldOf("U0T09T09");
        Checks.acts(x, "MOMM");
        due("0 is out", x.thrower(0, 7), 3);
        due("UNKNOWN ahead of OUTSIDE", x.alone(2, 2, true), UNKNOWN);
        due("UNKNOWN ahead of STATE", x.alone(0, 2, true), UNKNOWN);
        due("UNKNOWN ahead of STATE", x.alone(-1, 0, true), UNKNOWN);
        due("OUTSIDE ahead of STATE", x.alone(0, 0, true), OUTSIDE);
        due("STATE", x.alone(0, 1, true), STATE);
    }

    private static void aloneByNoChance() {
        about("promise 18, no chance is 0 by 1");
        UpWithSheaf x = Checks.fieldOf("U9T09T01T99");
        aloneDue("neither ever", x, 0, 1, 0, 1);
        aloneDue("one never: the other one's CLEARS", x, 0, 2, 999, 1000);
        UpWithSheaf y = Checks.fieldOf("U4T09T09");
        // 0.875 each: twice 0.875 * 0.125.
        aloneDue("two alike", y, 0, 1, 7, 32);
    }

    private static void justOneOfThem() {
        about("promise 18, \"the chance that just one of them CLEARS this HEIGHT\"");
        UpWithSheaf x = Checks.fieldOf("U4T09T49");
        // 0.875 * 0.001 + 0.125 * 0.999.
        aloneDue("7 by 8 and 999 by 1000", x, 0, 1, 503, 4000);
        Checks.acts(x, "MMM");
        // 0.5 * 0.01 + 0.5 * 0.99.
        aloneDue("1 by 2 and 99 by 100", x, 0, 1, 1, 2);
        UpWithSheaf y = Checks.fieldOf("U4T09T49T09");
        Checks.acts(y, "SO");
        aloneDue("as if neither over nor spared", y, 0, 1, 503, 4000);
    }

    private static void nothingIsChangedAhead() {
        about("promises 14 to 18, \"In what follows nothing is changed\"");
        UpWithSheaf x = Checks.fieldOf("U5T01T99T09");
        Checks.acts(x, "MOS");
        x.keep(0);
        Checks.acts(x, "M");
        x.seed(5);
        for (int who = 0; who < 3; who++) {
            x.clears(who, true);
            x.alone(who, (who + 1) % 3, false);
            for (int n = 1; n <= 4; n++) due("looked at", x.mean(who, n, true) + x.wise(who, n) + x.first(who, n, false) < 0 ? 1 : 0, 0);
        }
        counts("all as it was", x, 11, 3, 5, 7, 2, 4, 4, 0, 2);
        marks("all as it was", x, 0, 0, 1, 2, 2, NONE, NONE, 2, 0, 2);
        marks("all as it was", x, 1, 9, 9, 1, 0, 5, 0, 0, 1, 0);
        due("on", x.on(), 0);
        due("undo", x.undo(), 3);
        due("THE SEED", x.seed(0), 5);
        due("kept as it was", x.again(0), 5);
        marks("kept as it was", x, 0, 0, 1, 1, 1, NONE, NONE, 1, 0, 1);
    }
}
