/** The edges of promises 1 to 9: a new object, THE TEXT, THE FIELD, MARKS, RANK, ODDS. */
public final class FieldEdgesTest extends Edges {
    private static final String LONGEST = "U9T91T99T01T09";

    private FieldEdgesTest() { }

    public static void main(String[] args) {
        noThrowersAtFirst();
        firstFieldIsU0();
        nothingIsThereAtFirst();
        theLastOf512Calls();
        oneToEightBytes();
        theLowestBytes();
        theHighestFirst();
        behindTheText();
        sixteenBytesAtMost();
        nothingComesWhenFull();
        wipedEmptyAndFull();
        everyByteAtEveryPlace();
        theFirstByteThatCanNotBe();
        onlyNotAtItsEnd();
        noFaultOfAField();
        theFaultIsTheTexts();
        noneToFourThrowers();
        theFiguresOfAField();
        aFaultIsRefused();
        aFieldStartsAllAnew();
        whichThrowerIsAsked();
        whatIsAskedOfAThrower();
        noneAheadOfBeingOver();
        howAThrowerIs();
        theThirdRunning();
        missesHere();
        mostThrowsAndMisses();
        nobodyOn();
        theLeastIsOn();
        whoIsRanked();
        alikeAreNotBetter();
        betterByBest();
        betterByMissesThere();
        betterByMissesInAll();
        whoseOdds();
        atWhichHeight();
        nineTenthsAtMost();
        noTenthsAtLeast();
        throwsByWindAreCut();
        oddsOfWhoIsOut();
        finish(FieldEdgesTest.class);
    }

    private static void noThrowersAtFirst() {
        about("promise 1, \"No throwers\"");
        UpWithSheaf x = new UpWithSheaf();
        due("THROWERS", x.count(1), 0);
        for (int who : new int[] {0, 1, 2, 3}) {
            due("thrower " + who, x.thrower(who, 0), UNKNOWN);
            due("rank " + who, x.rank(who), UNKNOWN);
            due("odds " + who, x.odds(who, 0), UNKNOWN);
            due("clears " + who, x.clears(who, true), UNKNOWN);
            due("mean " + who, x.mean(who, 1, true), UNKNOWN);
            due("wise " + who, x.wise(who, 1), UNKNOWN);
            due("first " + who, x.first(who, 1, true), UNKNOWN);
            due("alone " + who, x.alone(who, 3 - who, true), UNKNOWN);
        }
        for (int what : new int[] {3, 4, 5, 8}) due("bits " + what, x.count(what), 0);
    }

    private static void firstFieldIsU0() {
        about("promise 1, \"At first THE FIELD is U0 (nobody is IN, so it is ENDED)\"");
        UpWithSheaf x = new UpWithSheaf();
        due("THE BAR", x.count(2), 0);
        due("ENDED", x.count(7), 1);
        due("on", x.on(), NONE);
        due("toss", x.toss(true), STATE);
        due("toss", x.toss(false), STATE);
        due("spare", x.spare(), STATE);
        due("judge", x.judge(1, 1), 0);
        due("fair", x.fair(), 0);
        due("keep", x.keep(0), 0);
        due("THE TEXT is none of it", x.fault(), 0);
    }

    private static void nothingIsThereAtFirst() {
        about("promise 1, THE TEXT, THE ROW of ACTS, the SLOTS are empty, THE SEED is 0 at first");
        UpWithSheaf x = new UpWithSheaf();
        due("bytes", x.count(0), 0);
        due("acts", x.count(6), 0);
        due("undo", x.undo(), STATE);
        due("slot 0", x.again(0), STATE);
        due("slot 1", x.again(1), STATE);
        due("seed", x.seed(1), 0);
        due("wipe", x.wipe(), 0);
        due("field", x.field(), STATE);
    }

    private static void theLastOf512Calls() {
        about("\"at most 512 calls\": the last of them answers as the first ones do");
        UpWithSheaf x = Checks.fieldOf("U4T09");
        // Three calls so far; each turn has six more: 3 + 84 * 6 = 507.
        for (int turn = 0; turn < 84; turn++) {
            due("toss " + turn, x.toss(true), 0);
            due("bar " + turn, x.count(2), 5);
            due("mean " + turn, x.mean(0, 1, true), 98);
            due("again " + turn, x.again(0), turn == 0 ? STATE : 4);
            due("undo " + turn, x.undo(), turn == 0 ? 0 : STATE);
            due("keep " + turn, x.keep(0), 4);
        }
        due("508th", x.toss(false), 0);
        due("509th", x.toss(false), 0);
        due("510th", x.toss(true), 0);
        due("511th", x.thrower(0, 5), 2);
        due("512th", x.count(2), 5);
    }

    private static void oneToEightBytes() {
        about("promise 2, \"n bytes (1 to 8)\"");
        for (int n = 1; n <= 8; n++) due("n " + n, new UpWithSheaf().write(n, 0), n);
        allDue("n", new int[] {0, 9, -1, 16, 256, MIN, MAX}, n -> new UpWithSheaf().write(n, 85), OUTSIDE);
        UpWithSheaf x = new UpWithSheaf();
        x.write(0, 85);
        x.write(9, 85);
        due("nothing came", x.count(0), 0);
    }

    private static void theLowestBytes() {
        about("promise 2, \"of v, the lowest n\"");
        String text = "U7T34T56";
        for (int n = 1; n <= 8; n++) {
            UpWithSheaf x = new UpWithSheaf();
            long v = -1L;
            for (int i = 0; i < n; i++) v = v << 8 | text.charAt(i);
            due("n " + n, x.write(n, v), n);
            if (n < 8) Checks.put(x, text.substring(n));
            due("no fault by n " + n, x.fault(), NONE);
            due("field by n " + n, x.field(), 2);
            due("bar by n " + n, x.count(2), 7);
            due("strength by n " + n, x.thrower(0, 0), 3);
            due("wind by n " + n, x.thrower(1, 1), 6);
        }
    }

    private static void theHighestFirst() {
        about("promise 2, \"the highest of these first\"");
        UpWithSheaf x = new UpWithSheaf();
        x.write(2, 0x5530);
        due("U, 0", x.fault(), NONE);
        x.wipe();
        x.write(2, 0x3055);
        due("0, U", x.fault(), 0);
        x.wipe();
        x.write(8, 0x5531543233543435L);
        x.field();
        marks("eight", x, 0, 2, 3);
        marks("eight", x, 1, 4, 5);
        UpWithSheaf y = new UpWithSheaf();
        y.write(8, 0xD530543031543031L);
        due("the highest bit is the first byte's", y.fault(), 0);
    }

    private static void behindTheText() {
        about("promise 2, \"come behind THE TEXT: how long it is\"");
        UpWithSheaf x = new UpWithSheaf();
        String text = "U0T12T34T56T78";
        for (int i = 0; i < text.length(); i++) due("byte " + i, x.write(1, text.charAt(i)), i + 1);
        due("field", x.field(), 4);
        for (int i = 0; i < 4; i++) marks("byte by byte", x, i, 2 * i + 1, 2 * i + 2);
        due("15", x.write(1, 0), 15);
        due("16", x.write(1, 0), 16);
    }

    private static void sixteenBytesAtMost() {
        about("promise 2, \"FULL: it would be longer than 16\"");
        for (int length = 0; length <= 16; length++) {
            for (int n = 1; n <= 8; n++) {
                UpWithSheaf x = new UpWithSheaf();
                for (int i = 0; i < length; i++) x.write(1, 0);
                due(n + " behind " + length, x.write(n, 0), length + n > 16 ? FULL : length + n);
            }
        }
    }

    private static void nothingComesWhenFull() {
        about("promise 2, \"(nothing comes)\"");
        UpWithSheaf x = new UpWithSheaf();
        Checks.put(x, LONGEST);
        due("three behind 14", x.write(3, 0), FULL);
        due("still 14", x.count(0), 14);
        due("still a field", x.fault(), NONE);
        due("two behind 14", x.write(2, 0), 16);
        due("one behind 16", x.write(1, 0), FULL);
        due("still 16", x.count(0), 16);
        UpWithSheaf y = new UpWithSheaf();
        Checks.put(y, "U9T91T99T");
        due("eight behind nine", y.write(8, 0x3031543031543031L), FULL);
        due("seven behind nine", y.write(5, 0x3031543031L), 14);
        due("the five alone stand", y.field(), 4);
    }

    private static void wipedEmptyAndFull() {
        about("promise 3, \"THE TEXT is empty: how long it was\"");
        for (int length = 0; length <= 16; length++) {
            UpWithSheaf x = new UpWithSheaf();
            for (int i = 0; i < length; i++) x.write(1, LONGEST.charAt(i % 14));
            due("wipe of " + length, x.wipe(), length);
            due("bytes behind it", x.count(0), 0);
            due("the fault of none", x.fault(), 0);
            due("wipe of none", x.wipe(), 0);
            due("room for eight", x.write(8, 0), 8);
            due("room for sixteen", x.write(8, 0), 16);
        }
        UpWithSheaf y = Checks.fieldOf("U4T11T22");
        Checks.acts(y, "MO");
        y.keep(1);
        y.seed(6);
        y.wipe();
        due("THE FIELD stays", y.count(1), 2);
        due("acts stay", y.count(6), 2);
        due("slots stay", y.again(1), 4);
        due("THE SEED stays", y.seed(0), 6);
    }

    /** What may stand at a place of a FIELD, whatever stands ahead of it. */
    private static boolean canStand(int place, int sign) {
        String[] each = {"T", "0123456789", "123456789"};
        String may = place == 0 ? "U" : place == 1 ? "0123456789" : place > 13 ? "" : each[(place - 2) % 3];
        return may.indexOf((char) sign) >= 0;
    }

    private static void everyByteAtEveryPlace() {
        about("promise 4, \"U, one figure (0 to 9), T, STRENGTH (0 to 9), WIND (1 to 9)\", 4 THROWERS at most");
        for (int place = 0; place < 16; place++) {
            for (int sign = 0; sign < 256; sign++) {
                UpWithSheaf x = new UpWithSheaf();
                // Behind the 14th byte nothing can stand, so the fault of 15 is at 14 whatever comes.
                Checks.put(x, (LONGEST + "T").substring(0, place));
                x.write(1, sign);
                int length = place + 1;
                int due = place > 13 ? 14 : !canStand(place, sign) ? place : length % 3 == 2 ? NONE : length;
                due("byte " + sign + " at " + place, x.fault(), due);
            }
        }
    }

    private static int faultOf(String text) {
        UpWithSheaf x = new UpWithSheaf();
        Checks.put(x, text);
        return x.fault();
    }

    private static void theFirstByteThatCanNotBe() {
        about("promise 4, \"the first byte .., whatever came behind it (its length set aside)\"");
        for (int place = 0; place < 14; place++) {
            String wrong = LONGEST.substring(0, place) + "X";
            for (int length = place + 1; length <= 16; length++) {
                String right = (wrong + (LONGEST + "T0").substring(place + 1)).substring(0, length);
                due("fault of " + right, faultOf(right), place);
                String worse = (wrong + "XXXXXXXXXXXXXXXX").substring(0, length);
                due("fault of " + worse, faultOf(worse), place);
            }
        }
        for (String more : new String[] {"T", "X", "0", "TT", "T0", "XX"}) {
            due("fault of " + LONGEST + more, faultOf(LONGEST + more), 14);
        }
    }

    private static void onlyNotAtItsEnd() {
        about("promise 4, \"its length, if it is only not at its end\"");
        for (int length = 0; length < 14; length++) {
            if (length >= 2 && length % 3 == 2) continue;
            String text = LONGEST.substring(0, length);
            due("fault of " + text, faultOf(text), length);
        }
    }

    private static void noFaultOfAField() {
        about("promise 4, \"NONE: none\"");
        for (int length = 2; length <= 14; length += 3) {
            String text = LONGEST.substring(0, length);
            due("fault of " + text, faultOf(text), NONE);
        }
    }

    private static void theFaultIsTheTexts() {
        about("promise 4, the FAULT is THE TEXT's, whatever THE FIELD is");
        UpWithSheaf x = Checks.fieldOf("U4T11");
        due("the field's own", x.fault(), NONE);
        x.write(1, 'T');
        due("one more byte", x.fault(), 6);
        x.wipe();
        due("empty", x.fault(), 0);
        due("THE FIELD stays", x.count(1), 1);
    }

    private static void noneToFourThrowers() {
        about("promise 5, \"THROWERS, none or more (4 at most, numbered as they are told)\"");
        for (int n = 0; n <= 4; n++) {
            UpWithSheaf x = new UpWithSheaf();
            Checks.put(x, "U3T12T34T56T78".substring(0, 2 + 3 * n));
            due("field of " + n, x.field(), n);
            due("count of " + n, x.count(1), n);
            due("bar of " + n, x.count(2), 3);
            due("ENDED of " + n, x.count(7), n == 0 ? 1 : 0);
            due("on of " + n, x.on(), n == 0 ? NONE : 0);
            due("THE TEXT of " + n, x.count(0), 2 + 3 * n);
            for (int i = 0; i < n; i++) marks("of " + n, x, i, 2 * i + 1, 2 * i + 2);
            due("no more of " + n, x.thrower(n, 0), UNKNOWN);
        }
        UpWithSheaf five = new UpWithSheaf();
        Checks.put(five, "U3T12T34T56T78T9");
        due("a fifth begun", five.field(), STATE);
    }

    private static void theFiguresOfAField() {
        about("promise 5, \"where THE BAR is at first: 0 to 9\", \"s (0 to 9), WIND w (1 to 9)\"");
        for (int figure = 0; figure <= 9; figure++) {
            UpWithSheaf x = new UpWithSheaf();
            Checks.put(x, "U" + figure + "T" + figure + "1");
            due("field by " + figure, x.field(), 1);
            due("bar " + figure, x.count(2), figure);
            due("strength " + figure, x.thrower(0, 0), figure);
            x.wipe();
            Checks.put(x, "U0T0" + figure);
            due("wind " + figure, x.field(), figure == 0 ? STATE : 1);
            due("THE FIELD's wind", x.thrower(0, 1), figure == 0 ? 1 : figure);
        }
    }

    private static void aFaultIsRefused() {
        about("promise 5, \"STATE: a FAULT\"");
        for (int length = 0; length <= 16; length++) {
            boolean isField = length % 3 == 2 && length <= 14;
            UpWithSheaf x = new UpWithSheaf();
            Checks.put(x, (LONGEST + "T0").substring(0, length));
            due("field of " + length + " bytes", x.field(), isField ? (length - 2) / 3 : STATE);
            due("bar", x.count(2), isField ? 9 : 0);
        }
        for (int place = 0; place < 14; place++) {
            UpWithSheaf x = new UpWithSheaf();
            Checks.put(x, LONGEST.substring(0, place) + "X" + LONGEST.substring(place + 1));
            due("a fault at " + place, x.field(), STATE);
            due("no throwers behind it", x.count(1), 0);
        }
    }

    private static void aFieldStartsAllAnew() {
        about("promise 5, \"all are IN, nothing was tried, THE ROW .. is empty, what was kept is gone; THE SEED stays\"");
        UpWithSheaf x = Checks.fieldOf("U9T91T99T01T09");
        x.seed(-3);
        x.keep(0);
        Checks.acts(x, "MOSMMMMOMMM");
        x.keep(1);
        due("ahead of it one is out", x.count(3) == 15 ? 1 : 0, 0);
        due("THE TEXT stays as it is", x.field(), 4);
        counts("anew", x, 14, 4, 9, 15, 0, 0, 0, 0, 15);
        for (int i = 0; i < 4; i++) {
            marks("anew", x, i, i < 2 ? 9 : 0, i % 2 == 0 ? 1 : 9, 0, 0, NONE, NONE, 0, 0, 0);
            due("rank " + i, x.rank(i), 0);
        }
        due("on", x.on(), 0);
        due("row", x.undo(), STATE);
        due("slot 0", x.again(0), STATE);
        due("slot 1", x.again(1), STATE);
        due("THE SEED", x.seed(0), -3);
        due("once more", x.field(), 4);
    }

    private static void whichThrowerIsAsked() {
        about("promise 6, \"UNKNOWN\" (there is no such THROWER)");
        for (int n = 0; n <= 4; n++) {
            UpWithSheaf x = Checks.fieldOf(LONGEST.substring(0, 2 + 3 * n));
            for (int who : noThrower(n)) due(who + " of " + n, x.thrower(who, 0), UNKNOWN);
            for (int who = 0; who < n; who++) due(who + " of " + n, x.thrower(who, 7), 0);
        }
    }

    private static void whatIsAskedOfAThrower() {
        about("promise 6, what = 0 to 8, else \"OUTSIDE\"");
        UpWithSheaf x = Checks.fieldOf("U3T45");
        marks("at first", x, 0, 4, 5, 0, 0, NONE, NONE, 0, 0, 0);
        allDue("what", new int[] {-1, 9, 10, -9, MIN, MAX}, what -> x.thrower(0, what), OUTSIDE);
        due("UNKNOWN ahead of OUTSIDE", x.thrower(1, 9), UNKNOWN);
        due("UNKNOWN ahead of OUTSIDE", x.thrower(-1, -1), UNKNOWN);
    }

    private static void noneAheadOfBeingOver() {
        about("promise 6, BEST and MISSES there are NONE till it is OVER, be it at HEIGHT 0");
        UpWithSheaf x = Checks.fieldOf("U0T09T09");
        Checks.acts(x, "MM");
        due("best ahead", x.thrower(0, 4), NONE);
        due("there ahead", x.thrower(0, 5), NONE);
        x.toss(true);
        due("best at 0", x.thrower(0, 4), 0);
        due("there behind one", x.thrower(0, 5), 1);
        x.spare();
        due("best of who spared", x.thrower(1, 4), NONE);
        due("there of who spared", x.thrower(1, 5), NONE);
        Checks.acts(x, "MMMMM");
        due("best of who is out", x.thrower(1, 4), NONE);
        due("there of who is out", x.thrower(1, 5), NONE);
        due("best stays", x.thrower(0, 4), 0);
        due("there stays", x.thrower(0, 5), 1);
        UpWithSheaf y = Checks.fieldOf("U0T09");
        y.toss(true);
        due("there behind none", y.thrower(0, 5), 0);
        UpWithSheaf z = Checks.fieldOf("U0T09");
        Checks.acts(z, "MMO");
        due("there behind two", z.thrower(0, 5), 2);
        due("in all", z.thrower(0, 6), 2);
    }

    private static void howAThrowerIs() {
        about("promise 6, \"how it is (7: 0 IN, 1 OVER here, 2 SPARED here, 3 OUT)\"");
        UpWithSheaf x = Checks.fieldOf("U0T09T09T09T09");
        Checks.acts(x, "OSMM");
        int[] how = {1, 2, 0, 0};
        for (int i = 0; i < 4; i++) due("how " + i, x.thrower(i, 7), how[i]);
        Checks.acts(x, "MMM");
        due("out", x.thrower(2, 7), 3);
        due("two misses", x.thrower(3, 7), 0);
        x.toss(true);
        int[] risen = {0, 0, 3, 0};
        for (int i = 0; i < 4; i++) due("risen " + i, x.thrower(i, 7), risen[i]);
    }

    private static void theThirdRunning() {
        about("promise 6, \"by the third that is RUNNING it is OUT\"");
        UpWithSheaf x = Checks.fieldOf("U0T09T09");
        int[] running = {1, 2, 3};
        for (int i = 0; i < 3; i++) {
            x.toss(false);
            due("running", x.thrower(0, 3), running[i]);
            due("how", x.thrower(0, 7), i == 2 ? 3 : 0);
            if (i < 2) x.spare();
            if (i == 0) due("two are there", x.on(), 0);
        }
        UpWithSheaf y = Checks.fieldOf("U0T09");
        Checks.acts(y, "MMOMM");
        marks("four, not three running", y, 0, 0, 9, 5, 2, 0, 2, 4, 0, 2);
        y.spare();
        due("running go on", y.thrower(0, 3), 2);
        y.toss(false);
        marks("the third, a height later", y, 0, 0, 9, 6, 3, 0, 2, 5, 3, 1);
    }

    private static void missesHere() {
        about("promise 6, \"MISSES at this HEIGHT (8)\": none as THE BAR rises, they stay when it is ENDED");
        UpWithSheaf x = Checks.fieldOf("U0T09T09T09");
        Checks.acts(x, "MMMMMMM");
        due("out by three here", x.thrower(0, 8), 3);
        due("two here", x.thrower(1, 8), 2);
        x.toss(true);
        due("over behind two", x.thrower(1, 8), 2);
        x.spare();
        due("bar", x.count(2), 1);
        for (int i = 0; i < 3; i++) due("none at 1 " + i, x.thrower(i, 8), 0);
        Checks.acts(x, "MMMM");
        due("ended", x.count(7), 1);
        int[] here = {0, 3, 1};
        for (int i = 0; i < 3; i++) due("ended " + i, x.thrower(i, 8), here[i]);
    }

    private static void mostThrowsAndMisses() {
        about("promise 6, THROWS and MISSES in all at their most: 12 HEIGHTS, three TRIES at each");
        UpWithSheaf x = Checks.fieldOf("U0T91");
        for (int height = 0; height < 11; height++) Checks.acts(x, "MMO");
        Checks.acts(x, "MM");
        marks("at 11", x, 0, 9, 1, 35, 2, 10, 2, 24, 0, 2);
        due("the third", x.toss(false), NONE);
        marks("out at 11", x, 0, 9, 1, 36, 3, 10, 2, 25, 3, 3);
    }

    private static void nobodyOn() {
        about("promise 7, \"NONE: it is ENDED\"");
        due("at first", new UpWithSheaf().on(), NONE);
        due("no throwers", Checks.fieldOf("U9").on(), NONE);
        UpWithSheaf out = Checks.fieldOf("U0T09");
        Checks.acts(out, "MM");
        due("not yet", out.on(), 0);
        out.toss(false);
        due("all out", out.on(), NONE);
        UpWithSheaf above = Checks.fieldOf("U9T09");
        Checks.acts(above, "SS");
        due("at 11", above.on(), 0);
        above.spare();
        due("behind 11", above.on(), NONE);
    }

    private static void theLeastIsOn() {
        about("promise 7, \"at first the least\", \"the least that is IN is ON\"");
        UpWithSheaf x = Checks.fieldOf("U0T09T09T09T09");
        due("at first", x.on(), 0);
        Checks.acts(x, "SOOO");
        due("at 1, though 3 was last", x.on(), 0);
        Checks.acts(x, "MOOOMM");
        due("at 2 with 0 out", x.on(), 1);
        Checks.acts(x, "MOOMM");
        due("at 3 with 1 out too", x.on(), 2);
        Checks.acts(x, "MOMM");
        due("at 4 with 3 alone", x.on(), 3);
        due("bar", x.count(2), 4);
    }

    private static void whoIsRanked() {
        about("promise 8, \"UNKNOWN\"");
        for (int n = 0; n <= 4; n++) {
            UpWithSheaf x = Checks.fieldOf(LONGEST.substring(0, 2 + 3 * n));
            for (int who : noThrower(n)) due(who + " of " + n, x.rank(who), UNKNOWN);
            for (int who = 0; who < n; who++) due(who + " of " + n, x.rank(who), 0);
        }
    }

    private static void ranks(String what, UpWithSheaf x, int... due) {
        for (int i = 0; i < due.length; i++) due(what + ", rank(" + i + ")", x.rank(i), due[i]);
    }

    private static void alikeAreNotBetter() {
        about("promise 8, \"RANK: how many are BETTER than it\": those alike are not");
        UpWithSheaf x = Checks.fieldOf("U0T09T19T29T39");
        ranks("at first", x, 0, 0, 0, 0);
        Checks.acts(x, "MMMM");
        ranks("a miss each", x, 0, 0, 0, 0);
        Checks.acts(x, "OO");
        ranks("two alike ahead of two alike", x, 0, 0, 2, 2);
        Checks.acts(x, "OO");
        ranks("over each", x, 0, 0, 0, 0);
        Checks.acts(x, "OSSS");
        ranks("one ahead of three alike", x, 0, 1, 1, 1);
        Checks.acts(x, "SOMS");
        ranks("one of each and two", x, 1, 0, 3, 2);
    }

    private static void betterByBest() {
        about("promise 8, \"by a greater BEST (NONE first)\", whatever the MISSES");
        UpWithSheaf x = Checks.fieldOf("U0T09T09");
        Checks.acts(x, "MSMO");
        ranks("0 by two misses, and NONE by none", x, 0, 1);
        Checks.acts(x, "SMMO");
        ranks("1 by two misses, and 0 by two", x, 1, 0);
        UpWithSheaf y = Checks.fieldOf("U0T09T09");
        Checks.acts(y, "OMMOMSMO");
        ranks("1 by two there and in all, and 0 by two", y, 0, 1);
    }

    private static void betterByMissesThere() {
        about("promise 8, \"then by fewer MISSES there\", whatever the MISSES in all");
        UpWithSheaf x = Checks.fieldOf("U0T09T09");
        Checks.acts(x, "MOMO");
        ranks("0 behind two and behind none", x, 1, 0);
        Checks.acts(x, "OMO");
        ranks("1: none there, two in all, and one there, one in all", x, 0, 1);
    }

    private static void betterByMissesInAll() {
        about("promise 8, \"then by fewer in all\"");
        UpWithSheaf x = Checks.fieldOf("U0T09T09");
        Checks.acts(x, "MS");
        ranks("NONE both", x, 1, 0);
        x.undo();
        Checks.acts(x, "M");
        ranks("as many", x, 0, 0);
        UpWithSheaf y = Checks.fieldOf("U0T09T09");
        Checks.acts(y, "MOOOO");
        ranks("1 by none there both", y, 1, 0);
    }

    private static void whoseOdds() {
        about("promise 9, \"UNKNOWN\"");
        for (int n = 0; n <= 4; n++) {
            UpWithSheaf x = Checks.fieldOf(LONGEST.substring(0, 2 + 3 * n));
            for (int who : noThrower(n)) due(who + " of " + n, x.odds(who, 0), UNKNOWN);
            for (int who = 0; who < n; who++) due(who + " of " + n, x.odds(who, 0), 9);
            due("UNKNOWN ahead of OUTSIDE", x.odds(n, 12), UNKNOWN);
        }
    }

    private static void atWhichHeight() {
        about("promise 9, \"OUTSIDE: height (0 to 11)\"");
        UpWithSheaf x = Checks.fieldOf("U5T39");
        allDue("height", new int[] {-1, 12, 13, -9, MIN, MAX}, height -> x.odds(0, height), OUTSIDE);
        int[] odds = {9, 9, 9, 9, 8, 7, 6, 5, 4, 3, 2, 1};
        for (int height = 0; height <= 11; height++) due("height " + height, x.odds(0, height), odds[height]);
    }

    private static void nineTenthsAtMost() {
        about("promise 9, \"9 at most\"");
        UpWithSheaf x = Checks.fieldOf("U0T91T09");
        due("18 at 0", x.odds(0, 0), 9);
        due("10 at 8", x.odds(0, 8), 9);
        due("9 at 9", x.odds(0, 9), 9);
        due("8 at 10", x.odds(0, 10), 8);
        due("9 at 0", x.odds(1, 0), 9);
        due("8 at 1", x.odds(1, 1), 8);
        x.toss(false);
        due("9 at 8, a throw later", x.odds(0, 8), 9);
        due("8 at 9, a throw later", x.odds(0, 9), 8);
    }

    private static void noTenthsAtLeast() {
        about("promise 9, \"0 at least\"");
        UpWithSheaf x = Checks.fieldOf("U0T01");
        due("1 at 8", x.odds(0, 8), 1);
        due("0 at 9", x.odds(0, 9), 0);
        due("1 less than 0 at 10", x.odds(0, 10), 0);
        due("2 less than 0 at 11", x.odds(0, 11), 0);
        x.toss(true);
        due("0 at 8, a throw later", x.odds(0, 8), 0);
        for (int height = 1; height < 11; height++) Checks.acts(x, "MMO");
        due("31 throws", x.thrower(0, 2), 31);
        due("22 less than 0 at 0", x.odds(0, 0), 0);
        due("33 less than 0 at 11", x.odds(0, 11), 0);
    }

    private static void throwsByWindAreCut() {
        about("promise 9, \"less its THROWS by its WIND (cut)\"");
        for (int wind = 1; wind <= 9; wind++) {
            UpWithSheaf x = Checks.fieldOf("U0T0" + wind);
            for (int tries = 0; tries <= 11; tries++) {
                int due = Math.max(0, 4 - tries / wind);
                due(tries + " throws by " + wind, x.odds(0, 5), due);
                x.toss(true);
            }
        }
        UpWithSheaf y = Checks.fieldOf("U0T01");
        Checks.acts(y, "SSS");
        due("sparing costs none", y.odds(0, 5), 4);
        y.toss(false);
        due("a miss costs one", y.odds(0, 5), 3);
    }

    private static void oddsOfWhoIsOut() {
        about("promise 9, ODDS are told of who is OUT too, and when it is ENDED");
        UpWithSheaf x = Checks.fieldOf("U9T92");
        Checks.acts(x, "MMM");
        due("ended", x.count(7), 1);
        due("three throws by two", x.odds(0, 11), 6);
        due("at 0", x.odds(0, 0), 9);
    }
}
