/** The edges of promises 10 to 13: TRIES, SPARINGS, turns, THE BAR's rising, the end, THE ROW of ACTS, told rows. */
public final class ActsEdgesTest extends Edges {
    private static final int[] POWERS = {1, 10, 100, 1000, 10000, 100000, 1000000, 10000000, 100000000};

    private ActsEdgesTest() { }

    public static void main(String[] args) {
        nobodyTries();
        nobodyTriesWhenAllAreOut();
        nobodyTriesBehind11();
        roundAndRound();
        itselfIfTheOnlyOne();
        overSparedOutAreNotOn();
        aTryCostsAThrow();
        overTakesTheHeight();
        overLeavesNoneRunning();
        aMissCountsThrice();
        outByTheThirdRunning();
        theBarRisesByOne();
        theBarRisesTo11();
        allOutAtEachHeight();
        whoIsOutStaysOut();
        whatStaysAtTheEnd();
        theLastOneInDecides();
        nobodySpares();
        sparedTriesNoMoreHere();
        runningGoOn();
        nothingToUndo();
        theLastActIsUndone();
        theEndIsUndone();
        sixteenActsAtMost();
        theFirstIsForgotten();
        undoneAndActedAgain();
        whatUndoLeaves();
        oneToEightActs();
        nFiguresAtMost();
        zeroOrMore();
        noSuchFigure();
        thePlaceWhereItIsEnded();
        allCan();
        theFirstOneFirst();
        fromNowOn();
        judgingChangesNothing();
        finish(ActsEdgesTest.class);
    }

    private static void ended(String what, UpWithSheaf x) {
        due(what + ": ENDED", x.count(7), 1);
        due(what + ": on", x.on(), NONE);
        int acts = x.count(6);
        due(what + ": a miss", x.toss(false), STATE);
        due(what + ": over", x.toss(true), STATE);
        due(what + ": spare", x.spare(), STATE);
        due(what + ": no act more", x.count(6), acts);
        due(what + ": on still", x.on(), NONE);
    }

    private static void nobodyTries() {
        about("promise 10, \"STATE: it is ENDED\" without THROWERS");
        ended("a new object", new UpWithSheaf());
        for (int bar = 0; bar <= 9; bar++) ended("U" + bar, Checks.fieldOf("U" + bar));
    }

    private static void nobodyTriesWhenAllAreOut() {
        about("promise 10, \"STATE: it is ENDED\", all OUT");
        UpWithSheaf x = Checks.fieldOf("U2T09T09T09T09");
        Checks.acts(x, "MMMMMMMMMMM");
        due("one is left", x.on(), 3);
        due("the last one", x.toss(false), NONE);
        ended("all out", x);
        marks("nothing changed", x, 3, 0, 9, 3, 3, NONE, NONE, 3, 3, 3);
    }

    private static void nobodyTriesBehind11() {
        about("promise 10, \"STATE: it is ENDED\", THE BAR at 11");
        UpWithSheaf x = Checks.fieldOf("U9T09T09");
        Checks.acts(x, "OOOO");
        due("at 11 it is not", x.count(7), 0);
        due("bar", x.count(2), 11);
        due("one over", x.toss(true), 1);
        due("the other", x.toss(true), NONE);
        ended("over 11", x);
        marks("nothing changed", x, 1, 0, 9, 3, 0, 11, 0, 0, 1, 0);
    }

    private static void roundAndRound() {
        about("promise 10, \"the next one by number, round and round\"");
        UpWithSheaf x = Checks.fieldOf("U0T09T09T09T09");
        for (int i = 1; i <= 8; i++) due("a miss " + i, x.toss(false), i % 4);
        UpWithSheaf y = Checks.fieldOf("U0T09T09");
        for (int i = 1; i <= 4; i++) due("a miss of two " + i, y.toss(false), i % 2);
    }

    private static void itselfIfTheOnlyOne() {
        about("promise 10, \"(itself, if it is the only one)\"");
        UpWithSheaf x = Checks.fieldOf("U0T09");
        due("alone", x.toss(false), 0);
        due("alone, risen", x.toss(true), 0);
        UpWithSheaf y = Checks.fieldOf("U0T09T09T09");
        Checks.acts(y, "OM");
        due("the last of three", y.spare(), 1);
        due("1 alone", y.toss(false), 1);
        due("all of them behind the rise", y.toss(true), 0);
    }

    private static void overSparedOutAreNotOn() {
        about("promise 10, \"IN, not OVER and has not SPARED itself is ON\"");
        UpWithSheaf x = Checks.fieldOf("U0T09T09T09T09");
        due("0 is over", x.toss(true), 1);
        due("1 has spared", x.spare(), 2);
        due("2 misses", x.toss(false), 3);
        due("3 misses: 0 and 1 are not on", x.toss(false), 2);
        due("2 misses", x.toss(false), 3);
        due("3 misses", x.toss(false), 2);
        due("2 is out", x.toss(false), 3);
        due("bar", x.count(2), 0);
        due("3 is over, all rise", x.toss(true), 0);
        due("1 is on again", x.toss(false), 1);
        due("2 is not", x.toss(false), 3);
    }

    private static void aTryCostsAThrow() {
        about("promise 10, \"A TRY .. costs it a THROW\", over or not");
        UpWithSheaf x = Checks.fieldOf("U0T09T09");
        Checks.acts(x, "MOO");
        due("a miss and over", x.thrower(0, 2), 2);
        due("over", x.thrower(1, 2), 1);
        Checks.acts(x, "SS");
        due("a sparing costs none", x.thrower(0, 2), 2);
    }

    private static void overTakesTheHeight() {
        about("promise 10, \"THE BAR's HEIGHT is its BEST, its MISSES there are those it made at this HEIGHT\"");
        UpWithSheaf x = Checks.fieldOf("U9T09T09");
        Checks.acts(x, "MMO");
        marks("behind one at 9", x, 0, 0, 9, 2, 0, 9, 1, 1, 1, 1);
        x.toss(true);
        marks("behind one at 9", x, 1, 0, 9, 2, 0, 9, 1, 1, 0, 0);
        Checks.acts(x, "OMMO");
        marks("behind none at 10", x, 0, 0, 9, 3, 0, 10, 0, 1, 0, 0);
        marks("behind two at 10", x, 1, 0, 9, 5, 0, 10, 2, 3, 0, 0);
        Checks.acts(x, "OS");
        marks("at 11", x, 0, 0, 9, 4, 0, 11, 0, 1, 1, 0);
        marks("spared at 11", x, 1, 0, 9, 5, 0, 10, 2, 3, 2, 0);
    }

    private static void overLeavesNoneRunning() {
        about("promise 10, \"it has none RUNNING\"");
        UpWithSheaf x = Checks.fieldOf("U0T09T09");
        Checks.acts(x, "MSM");
        due("two", x.thrower(0, 3), 2);
        x.toss(true);
        due("none", x.thrower(0, 3), 0);
        due("in all stay", x.thrower(0, 6), 2);
        Checks.acts(x, "MSM");
        due("two more are not the third", x.thrower(0, 7), 0);
        due("two running", x.thrower(0, 3), 2);
    }

    private static void aMissCountsThrice() {
        about("promise 10, \"one MISS more at this HEIGHT, in all and RUNNING\"");
        UpWithSheaf x = Checks.fieldOf("U0T09T09");
        Checks.acts(x, "MO");
        marks("the first", x, 0, 0, 9, 1, 1, NONE, NONE, 1, 0, 1);
        Checks.acts(x, "SM");
        marks("the second, a height later", x, 0, 0, 9, 2, 2, NONE, NONE, 2, 0, 1);
    }

    private static void outByTheThirdRunning() {
        about("promise 10, \"by the third that is RUNNING it is OUT\"");
        UpWithSheaf x = Checks.fieldOf("U0T09T09");
        Checks.acts(x, "MOM");
        due("two: on still", x.on(), 0);
        due("bits behind two", x.count(3), 3);
        x.toss(false);
        due("three: out", x.count(3), 2);
        due("the other goes on", x.on(), 1);
        UpWithSheaf y = Checks.fieldOf("U0T09");
        Checks.acts(y, "MSMS");
        due("one each at 0 and 1", y.count(7), 0);
        due("and one at 2", y.toss(false), NONE);
        due("out by three heights", y.thrower(0, 7), 3);
    }

    private static void theBarRisesByOne() {
        about("promise 10, \"THE BAR rises by 1, nobody is OVER or has SPARED itself any more\"");
        UpWithSheaf x = Checks.fieldOf("U4T09T09T09");
        Checks.acts(x, "OS");
        counts("ahead of it", x, 11, 3, 4, 7, 1, 2, 2, 0, 1);
        due("the last one", x.toss(true), 0);
        counts("behind it", x, 11, 3, 5, 7, 0, 0, 3, 0, 5);
        for (int i = 0; i < 3; i++) due("IN " + i, x.thrower(i, 7), 0);
    }

    private static void theBarRisesTo11() {
        about("promise 10, \"THE BAR is at a HEIGHT (0 to 11)\": from 0 to 11, not above");
        UpWithSheaf x = Checks.fieldOf("U0T09");
        for (int height = 0; height < 11; height++) {
            due("bar", x.count(2), height);
            due("not ended", x.count(7), 0);
            due("on", height % 2 == 0 ? x.toss(true) : x.spare(), 0);
        }
        due("at 11", x.count(2), 11);
        due("not ended at 11", x.count(7), 0);
        due("on at 11", x.on(), 0);
        due("behind 11", x.toss(true), NONE);
        due("still at 11", x.count(2), 11);
        due("best", x.thrower(0, 4), 11);
    }

    private static void allOutAtEachHeight() {
        about("promise 10, \"if nobody is IN .. it is ENDED then (.. THE BAR .. stay)\" at each HEIGHT");
        for (int height = 0; height <= 11; height++) {
            UpWithSheaf x = Checks.fieldOf("U0T09");
            for (int i = 0; i < height; i++) x.spare();
            Checks.acts(x, "MM");
            due("two misses at " + height, x.count(7), 0);
            due("three misses at " + height, x.toss(false), NONE);
            due("ended at " + height, x.count(7), 1);
            due("bar at " + height, x.count(2), height);
            due("misses here at " + height, x.thrower(0, 8), 3);
        }
    }

    private static void whoIsOutStaysOut() {
        about("promise 10, who is OUT stays OUT as THE BAR rises, with its MARKS");
        UpWithSheaf x = Checks.fieldOf("U0T09T09");
        Checks.acts(x, "OOMOMM");
        due("risen", x.count(2), 2);
        due("alone", x.on(), 1);
        marks("out", x, 0, 0, 9, 4, 3, 0, 0, 3, 3, 0);
        Checks.acts(x, "OOOOOOOOO");
        due("at 11", x.on(), 1);
        x.spare();
        marks("out at the end", x, 0, 0, 9, 4, 3, 0, 0, 3, 3, 0);
        counts("at the end", x, 8, 2, 11, 2, 0, 2, 16, 1, 2);
    }

    private static void whatStaysAtTheEnd() {
        about("promise 10, \"THE BAR, who is OVER or SPARED, MISSES here stay\"");
        UpWithSheaf x = Checks.fieldOf("U9T09T09T09T09");
        Checks.acts(x, "SSSSSSSS");
        Checks.acts(x, "OMMMSMMM");
        due("one is left", x.on(), 3);
        due("the last one", x.toss(true), NONE);
        counts("at 11", x, 14, 4, 11, 11, 9, 2, 16, 1, 1);
        int[] how = {1, 2, 3, 1};
        int[] here = {0, 1, 3, 2};
        for (int i = 0; i < 4; i++) {
            due("how " + i, x.thrower(i, 7), how[i]);
            due("here " + i, x.thrower(i, 8), here[i]);
        }
    }

    private static void theLastOneInDecides() {
        about("promise 10, who is OVER or SPARED is IN: THE BAR rises, though the last one ON goes OUT");
        String[] first = {"O", "S"};
        for (String act : first) {
            UpWithSheaf x = Checks.fieldOf("U0T09T09");
            Checks.acts(x, act + "MM");
            due("risen behind " + act, x.toss(false), 0);
            due("bar behind " + act, x.count(2), 1);
            due("bits behind " + act, x.count(3), 1);
            due("not ended behind " + act, x.count(7), 0);
        }
        UpWithSheaf y = Checks.fieldOf("U9T09T09");
        Checks.acts(y, "SSSSOMM");
        due("at 11 it is ended", y.toss(false), NONE);
        due("over stays", y.count(4), 1);
    }

    private static void nobodySpares() {
        about("promise 11, \"STATE: it is ENDED\"");
        due("a new object", new UpWithSheaf().spare(), STATE);
        due("no throwers", Checks.fieldOf("U9").spare(), STATE);
        UpWithSheaf out = Checks.fieldOf("U0T09");
        Checks.acts(out, "MMM");
        due("all out", out.spare(), STATE);
        due("three acts still", out.count(6), 3);
        UpWithSheaf x = Checks.fieldOf("U9T09");
        due("to 10", x.spare(), 0);
        due("to 11", x.spare(), 0);
        due("behind 11", x.spare(), NONE);
        due("ended", x.spare(), STATE);
        due("three acts", x.count(6), 3);
        counts("spared stays", x, 5, 1, 11, 1, 0, 1, 3, 1, 1);
    }

    private static void sparedTriesNoMoreHere() {
        about("promise 11, \"it tries no more at this HEIGHT\": who is ON then");
        UpWithSheaf x = Checks.fieldOf("U0T09T09T09");
        due("next", x.spare(), 1);
        due("next", x.toss(false), 2);
        due("not 0", x.toss(false), 1);
        due("behind a miss", x.spare(), 2);
        due("itself", x.toss(false), 2);
        due("all rise", x.spare(), 0);
        due("bar", x.count(2), 1);
    }

    private static void runningGoOn() {
        about("promise 11, \"(MISSES that are RUNNING go on)\"");
        UpWithSheaf x = Checks.fieldOf("U0T09");
        Checks.acts(x, "MMS");
        marks("two", x, 0, 0, 9, 2, 2, NONE, NONE, 2, 0, 0);
        Checks.acts(x, "SSSS");
        marks("two, four heights later", x, 0, 0, 9, 2, 2, NONE, NONE, 2, 0, 0);
        due("the third", x.toss(false), NONE);
        marks("out", x, 0, 0, 9, 3, 3, NONE, NONE, 3, 3, 1);
        due("bar", x.count(2), 5);
    }

    private static void nothingToUndo() {
        about("promise 12, \"STATE: there is none\"");
        due("a new object", new UpWithSheaf().undo(), STATE);
        UpWithSheaf x = Checks.fieldOf("U0T09");
        due("a new field", x.undo(), STATE);
        x.toss(true);
        due("one", x.undo(), 0);
        due("none", x.undo(), STATE);
        due("and none again", x.undo(), STATE);
        due("the empty row", x.count(6), 0);
        x.toss(true);
        x.field();
        due("a field empties the row", x.undo(), STATE);
        x.keep(0);
        x.toss(true);
        x.again(0);
        due("going on empties the row", x.undo(), STATE);
    }

    private static void theLastActIsUndone() {
        about("promise 12, \"The last ACT is undone: how many are left\"");
        UpWithSheaf x = Checks.fieldOf("U3T09T09");
        Checks.acts(x, "MSMO");
        due("over at 3, risen", x.count(2), 4);
        due("a try and a rise", x.undo(), 3);
        marks("behind MSM", x, 0, 0, 9, 2, 2, NONE, NONE, 2, 0, 2);
        counts("behind MSM", x, 8, 2, 3, 3, 0, 2, 3, 0, 2);
        due("a miss", x.undo(), 2);
        marks("behind MS", x, 0, 0, 9, 1, 1, NONE, NONE, 1, 0, 1);
        due("on behind MS", x.on(), 0);
        due("a sparing", x.undo(), 1);
        marks("behind M", x, 1, 0, 9, 0, 0, NONE, NONE, 0, 0, 0);
        due("on behind M", x.on(), 1);
        due("the first", x.undo(), 0);
        marks("at first", x, 0, 0, 9, 0, 0, NONE, NONE, 0, 0, 0);
        due("on at first", x.on(), 0);
    }

    private static void theEndIsUndone() {
        about("promise 12, undone when it is ENDED");
        UpWithSheaf x = Checks.fieldOf("U0T09T09");
        Checks.acts(x, "MMMMMM");
        due("ended", x.on(), NONE);
        due("undone", x.undo(), 5);
        due("on", x.on(), 1);
        due("in", x.count(3), 2);
        due("not ended", x.count(7), 0);
        due("undone", x.undo(), 4);
        due("both in", x.count(3), 3);
        UpWithSheaf y = Checks.fieldOf("U9T09");
        Checks.acts(y, "OOO");
        due("ended at 11", y.on(), NONE);
        due("undone at 11", y.undo(), 2);
        marks("at 11", y, 0, 0, 9, 2, 0, 10, 0, 0, 0, 0);
        due("at 11 still", y.count(2), 11);
        due("undone to 10", y.undo(), 1);
        due("at 10", y.count(2), 10);
    }

    private static void sixteenActsAtMost() {
        about("promise 12, \"(16 at most\": how many are in THE ROW behind 0 to 40 ACTS");
        UpWithSheaf x = Checks.fieldOf("U0T09T09T09T09");
        for (int acts = 1; acts <= 40; acts++) {
            x.spare();
            due("acts in the row", x.count(6), Math.min(acts, 16));
        }
        due("undone", x.undo(), 15);
        due("in the row", x.count(6), 15);
        x.spare();
        due("sixteen again", x.count(6), 16);
    }

    private static void theFirstIsForgotten() {
        about("promise 12, \"of more the first one is forgotten)\"");
        for (int acts = 14; acts <= 36; acts++) {
            UpWithSheaf x = Checks.fieldOf("U0T09T09T09");
            for (int i = 0; i < acts; i++) x.spare();
            for (int left = Math.min(acts, 16) - 1; left >= 0; left--) due("left of " + acts, x.undo(), left);
            due("no more of " + acts, x.undo(), STATE);
            int forgotten = Math.max(0, acts - 16);
            due("bar of " + acts, x.count(2), forgotten / 3);
            due("on of " + acts, x.on(), forgotten % 3);
            due("spared of " + acts, x.count(5), (1 << forgotten % 3) - 1);
        }
    }

    private static void undoneAndActedAgain() {
        about("promise 12, ACTS behind what was undone come in its place");
        UpWithSheaf x = Checks.fieldOf("U0T09");
        for (int turn = 0; turn < 20; turn++) {
            Checks.acts(x, "MM");
            due("two undone", x.undo() + x.undo(), 1);
        }
        Checks.acts(x, "MOMO");
        marks("behind MOMO", x, 0, 0, 9, 4, 0, 1, 1, 2, 0, 0);
        x.undo();
        Checks.acts(x, "S");
        marks("behind MOMS", x, 0, 0, 9, 3, 1, 0, 1, 2, 0, 0);
        due("undone", x.undo(), 3);
        due("undone", x.undo(), 2);
        due("undone", x.undo(), 1);
        due("undone", x.undo(), 0);
        marks("at first", x, 0, 0, 9, 0, 0, NONE, NONE, 0, 0, 0);
    }

    private static void whatUndoLeaves() {
        about("promise 12, THE SEED, the SLOTS, THE TEXT are not undone");
        UpWithSheaf x = Checks.fieldOf("U5T09T09");
        x.toss(true);
        x.seed(12);
        x.keep(0);
        x.wipe();
        x.write(3, 0);
        x.toss(true);
        x.keep(1);
        x.undo();
        x.undo();
        due("bytes", x.count(0), 3);
        due("THE SEED", x.seed(0), 12);
        due("slot 1", x.again(1), 6);
        due("slot 0", x.again(0), 5);
        due("as it was kept", x.on(), 1);
    }

    private static void oneToEightActs() {
        about("promise 13, \"n ACTS (1 to 8)\", else OUTSIDE");
        UpWithSheaf x = Checks.fieldOf("U0T09T09T09T09");
        for (int n = 1; n <= 8; n++) due("n " + n, x.judge(n, 0), NONE);
        allDue("n", new int[] {0, 9, 10, -1, MIN, MAX}, n -> x.judge(n, 0), OUTSIDE);
        UpWithSheaf ended = new UpWithSheaf();
        for (int n = 1; n <= 8; n++) due("ended, n " + n, ended.judge(n, 0), 0);
        allDue("ended, n", new int[] {0, 9, 10, -1, MIN, MAX}, n -> ended.judge(n, 0), OUTSIDE);
    }

    private static void nFiguresAtMost() {
        about("promise 13, \"row (.. n figures at most)\", else OUTSIDE");
        UpWithSheaf x = Checks.fieldOf("U0T09T09T09T09");
        for (int n = 1; n <= 8; n++) {
            due("nines of " + n, x.judge(n, POWERS[n] - 1), 0);
            due("one figure more than " + n, x.judge(n, POWERS[n]), OUTSIDE);
            due("far more than " + n, x.judge(n, MAX), OUTSIDE);
            due("twos of " + n, x.judge(n, 2 * (POWERS[n] - 1) / 9), NONE);
        }
    }

    private static void zeroOrMore() {
        about("promise 13, \"row (0 or more\", else OUTSIDE");
        UpWithSheaf x = Checks.fieldOf("U0T09T09T09T09");
        for (int n = 1; n <= 8; n++) {
            due("0 by " + n, x.judge(n, 0), NONE);
            for (int row : new int[] {-1, -2, -12, MIN}) due(row + " by " + n, x.judge(n, row), OUTSIDE);
        }
    }

    private static void noSuchFigure() {
        about("promise 13, \"there is no such figure\": 0, 1, 2 are, 3 to 9 are not, at each place");
        UpWithSheaf x = Checks.fieldOf("U0T09T09T09T09");
        for (int n = 1; n <= 8; n++) {
            for (int place = 0; place < n; place++) {
                for (int figure = 0; figure <= 9; figure++) {
                    int row = figure * POWERS[n - 1 - place];
                    due("figure " + figure + " at " + place + " of " + n, x.judge(n, row), figure > 2 ? place : NONE);
                }
            }
        }
    }

    private static void thePlaceWhereItIsEnded() {
        about("promise 13, \"the place (from 0) of the first that can not be (it is ENDED\"");
        UpWithSheaf x = Checks.fieldOf("U0T09");
        due("three misses", x.judge(3, 0), NONE);
        for (int n = 4; n <= 8; n++) due("misses of " + n, x.judge(n, 0), 3);
        due("over first", x.judge(4, 1000), NONE);
        due("over first, five", x.judge(5, 10000), 4);
        due("over at last", x.judge(8, 11111000), NONE);
        due("ended ahead of the figure", x.judge(4, 9), 3);
        due("the figure ahead of the end", x.judge(5, 900), 2);
        UpWithSheaf y = Checks.fieldOf("U9T09");
        due("up to 11", y.judge(3, 111), NONE);
        due("behind 11", y.judge(4, 1111), 3);
        due("sparing up to 11", y.judge(3, 222), NONE);
        due("sparing behind 11", y.judge(8, 22222222), 3);
        Checks.acts(y, "OOO");
        for (int figure = 0; figure <= 9; figure++) due("ended already", y.judge(1, figure), 0);
        due("nobody", Checks.fieldOf("U3").judge(8, 11111111), 0);
    }

    private static void allCan() {
        about("promise 13, \"NONE: all can\", the last one too that ends it");
        UpWithSheaf x = Checks.fieldOf("U9T09T09");
        due("six to the end", x.judge(6, 111111), NONE);
        due("six misses", x.judge(6, 0), NONE);
        due("seven", x.judge(7, 1111112), 6);
        due("eight of all kinds", x.judge(8, 2102010), NONE);
    }

    private static void theFirstOneFirst() {
        about("promise 13, \"told as n figures .., the first one first\"");
        UpWithSheaf x = Checks.fieldOf("U9T09");
        due("a miss, then sparings", x.judge(4, 222), NONE);
        due("sparings, then a miss", x.judge(4, 2220), 3);
        due("the first of two wrong ones", x.judge(4, 394), 1);
        due("the first of three wrong ones", x.judge(4, 3394), 0);
        due("noughts ahead are misses", x.judge(5, 12), 3);
    }

    private static void fromNowOn() {
        about("promise 13, \"from now on\"");
        UpWithSheaf x = Checks.fieldOf("U0T09T09");
        Checks.acts(x, "MOM");
        due("0 has one left, then 1 alone three", x.judge(4, 0), NONE);
        due("then it is ended", x.judge(5, 0), 4);
        Checks.acts(x, "M");
        due("1 alone", x.judge(3, 0), NONE);
        due("1 alone is out", x.judge(4, 0), 3);
        Checks.acts(x, "SSSSSSSSSS");
        due("at 11", x.count(2), 11);
        due("one act is left", x.judge(1, 2), NONE);
        due("no second one", x.judge(2, 22), 1);
    }

    private static void judgingChangesNothing() {
        about("promise 13, judged ACTS change nothing");
        UpWithSheaf x = Checks.fieldOf("U9T09T09");
        Checks.acts(x, "MO");
        x.keep(0);
        for (int row : new int[] {0, 11111111, 22222222, 10210, 13, 99999999}) x.judge(8, row);
        counts("all as it was", x, 8, 2, 9, 3, 2, 0, 2, 0, 2);
        marks("all as it was", x, 0, 0, 9, 1, 1, NONE, NONE, 1, 0, 1);
        due("on", x.on(), 0);
        due("undo", x.undo(), 1);
        due("kept as it was", x.again(0), 9);
        marks("kept as it was", x, 1, 0, 9, 1, 0, 9, 0, 0, 1, 0);
    }
}
