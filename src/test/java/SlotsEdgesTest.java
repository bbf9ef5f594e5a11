/** The edges of promises 22 to 24: SLOTS that keep, going on from them, counts. */
public final class SlotsEdgesTest extends Edges {
    private SlotsEdgesTest() { }

    public static void main(String[] args) {
        slotsZeroToOne();
        keptIsTheBar();
        keptAtFirst();
        keptWhenEnded();
        keepingChangesNothing();
        keptOverWhatWasKept();
        slotsAreTwo();
        againOfNoSlot();
        noneWereKept();
        againAtEachBar();
        asTheyWereKept();
        theRowIsEmpty();
        againAndAgain();
        keptIsNotUndone();
        keptIsGoneByAField();
        againLeavesTheRest();
        whatIsCounted();
        countsOfNobody();
        bytesCounted();
        throwersCounted();
        theBarCounted();
        whoIsNotOut();
        whoIsOver();
        whoHasSpared();
        actsCounted();
        endedCounted();
        whoIsFirst();
        finish(SlotsEdgesTest.class);
    }

    private static void slotsZeroToOne() {
        about("promise 22, \"UNKNOWN\" (there is no such SLOT: 0 to 1)");
        UpWithSheaf x = Checks.fieldOf("U4T11");
        allDue("keep", NO_SLOT, x::keep, UNKNOWN);
        due("keep 0", x.keep(0), 4);
        due("keep 1", x.keep(1), 4);
        allDue("keep still", NO_SLOT, x::keep, UNKNOWN);
    }

    private static void keptIsTheBar() {
        about("promise 22, \"They are kept: THE BAR\", from 0 to 11");
        UpWithSheaf x = Checks.fieldOf("U0T11");
        for (int bar = 0; bar <= 11; bar++) {
            due("slot 0", x.keep(0), bar);
            due("slot 1", x.keep(1), bar);
            x.spare();
        }
        due("ended", x.count(7), 1);
        due("at 11 still", x.keep(0), 11);
    }

    private static void keptAtFirst() {
        about("promise 22, a new object's THE BAR, without THROWERS, is kept too");
        UpWithSheaf x = new UpWithSheaf();
        due("keep", x.keep(1), 0);
        due("again", x.again(1), 0);
        due("throwers", x.count(1), 0);
        due("on", x.on(), NONE);
        due("the other one", x.again(0), STATE);
        UpWithSheaf y = Checks.fieldOf("U8");
        due("U8", y.keep(0), 8);
        due("U8 again", y.again(0), 8);
        due("nobody on", y.on(), NONE);
    }

    private static void keptWhenEnded() {
        about("promise 22, \"keep THE BAR, who is ON\": NONE when it is ENDED");
        UpWithSheaf x = Checks.fieldOf("U9T01T01");
        Checks.acts(x, "MMMMMM");
        due("keep", x.keep(0), 9);
        x.undo();
        due("on", x.on(), 1);
        due("again", x.again(0), 9);
        due("nobody on", x.on(), NONE);
        due("no act", x.toss(true), STATE);
        marks("both out", x, 1, 0, 1, 3, 3, NONE, NONE, 3, 3, 3);
    }

    private static void keepingChangesNothing() {
        about("promise 22, keeping leaves all as it is, THE ROW of ACTS too");
        UpWithSheaf x = Checks.fieldOf("U4T11T22");
        Checks.acts(x, "MOM");
        x.keep(0);
        x.keep(1);
        x.keep(2);
        counts("as it was", x, 8, 2, 4, 3, 2, 0, 3, 0, 2);
        due("on", x.on(), 0);
        for (int left = 2; left >= 0; left--) due("undo", x.undo(), left);
        due("no more", x.undo(), STATE);
        marks("at first", x, 0, 1, 1, 0, 0, NONE, NONE, 0, 0, 0);
    }

    private static void keptOverWhatWasKept() {
        about("promise 22, what is kept comes in the place of what the SLOT kept");
        UpWithSheaf x = Checks.fieldOf("U4T11");
        x.keep(0);
        x.toss(true);
        due("later", x.keep(0), 5);
        x.toss(true);
        due("the later one", x.again(0), 5);
        due("best", x.thrower(0, 4), 4);
    }

    private static void slotsAreTwo() {
        about("promise 22, \"SLOTS 0 to 1\" keep each its own");
        UpWithSheaf x = Checks.fieldOf("U4T11");
        x.keep(1);
        due("0 keeps none", x.again(0), STATE);
        x.toss(true);
        x.keep(0);
        x.toss(true);
        due("1", x.again(1), 4);
        due("0", x.again(0), 5);
        due("1 once more", x.again(1), 4);
    }

    private static void againOfNoSlot() {
        about("promise 23, \"UNKNOWN\", ahead of STATE");
        UpWithSheaf x = Checks.fieldOf("U4T11");
        allDue("none were kept", NO_SLOT, x::again, UNKNOWN);
        x.keep(0);
        x.keep(1);
        allDue("both were kept", NO_SLOT, x::again, UNKNOWN);
    }

    private static void noneWereKept() {
        about("promise 23, \"STATE: none were kept\"");
        UpWithSheaf x = Checks.fieldOf("U4T11");
        x.toss(true);
        for (int slot = 0; slot <= 1; slot++) due("slot " + slot, x.again(slot), STATE);
        due("nothing changed", x.count(2), 5);
        due("the row", x.count(6), 1);
        for (int slot : NO_SLOT) x.keep(slot);
        for (int slot = 0; slot <= 1; slot++) due("behind what was refused, slot " + slot, x.again(slot), STATE);
        due("undo", x.undo(), 0);
    }

    private static void againAtEachBar() {
        about("promise 23, \"They are as they were kept: THE BAR\", from 0 to 11");
        UpWithSheaf x = Checks.fieldOf("U0T11");
        for (int bar = 0; bar <= 11; bar++) {
            x.keep(0);
            x.spare();
            due("again at " + bar, x.again(0), bar);
            due("bar", x.count(2), bar);
            due("on", x.on(), 0);
            x.spare();
        }
    }

    private static void asTheyWereKept() {
        about("promise 23, \"THE BAR, who is ON, all THROWERS\"");
        UpWithSheaf x = Checks.fieldOf("U9T91T92T93T94");
        Checks.acts(x, "MOSMMMM");
        due("on", x.on(), 3);
        x.keep(1);
        Checks.acts(x, "OOSMOM");
        due("bar", x.count(2), 11);
        due("again", x.again(1), 9);
        counts("as they were", x, 14, 4, 9, 14, 2, 4, 0, 0, 2);
        due("on as it was", x.on(), 3);
        marks("as they were", x, 0, 9, 1, 3, 3, NONE, NONE, 3, 3, 3);
        marks("as they were", x, 1, 9, 2, 1, 0, 9, 0, 0, 1, 0);
        marks("as they were", x, 2, 9, 3, 0, 0, NONE, NONE, 0, 2, 0);
        marks("as they were", x, 3, 9, 4, 2, 2, NONE, NONE, 2, 0, 2);
    }

    private static void theRowIsEmpty() {
        about("promise 23, \"(THE ROW of ACTS is empty when one goes on)\"");
        for (int acts = 0; acts <= 20; acts++) {
            UpWithSheaf x = Checks.fieldOf("U0T11T11");
            x.keep(0);
            for (int i = 0; i < acts; i++) x.spare();
            due("in the row", x.count(6), Math.min(16, acts));
            due("again", x.again(0), 0);
            due("none in the row", x.count(6), 0);
            due("undo", x.undo(), STATE);
            x.spare();
            due("one in the row", x.count(6), 1);
            due("undo of it", x.undo(), 0);
            due("on", x.on(), 0);
        }
        UpWithSheaf y = Checks.fieldOf("U0T11");
        y.keep(0);
        y.spare();
        due("refused", y.again(1), STATE);
        due("a refusal does not empty it", y.count(6), 1);
    }

    private static void againAndAgain() {
        about("promise 23, what was kept stays kept when one goes on from it");
        UpWithSheaf x = Checks.fieldOf("U9T91T92");
        Checks.acts(x, "M");
        x.keep(0);
        for (int turn = 0; turn < 10; turn++) {
            Checks.acts(x, "OMMMOO");
            due("again", x.again(0), 9);
            due("on", x.on(), 1);
            marks("as it was kept", x, 0, 9, 1, 1, 1, NONE, NONE, 1, 0, 1);
            marks("as it was kept", x, 1, 9, 2, 0, 0, NONE, NONE, 0, 0, 0);
        }
    }

    private static void keptIsNotUndone() {
        about("promise 23, undoing does not touch what was kept");
        UpWithSheaf x = Checks.fieldOf("U4T11");
        Checks.acts(x, "MO");
        x.keep(0);
        x.undo();
        x.undo();
        x.toss(false);
        due("again", x.again(0), 5);
        due("there", x.thrower(0, 5), 1);
    }

    private static void keptIsGoneByAField() {
        about("promise 23, none are kept behind `field` (\"what was kept is gone\"), but one that is refused");
        UpWithSheaf x = Checks.fieldOf("U4T11");
        x.keep(0);
        x.keep(1);
        x.write(1, 'X');
        due("refused", x.field(), STATE);
        due("0 is there", x.again(0), 4);
        due("1 is there", x.again(1), 4);
        x.wipe();
        Checks.put(x, "U4T11");
        due("the same text", x.field(), 1);
        due("0 is gone", x.again(0), STATE);
        due("1 is gone", x.again(1), STATE);
    }

    private static void againLeavesTheRest() {
        about("promise 23, THE TEXT and THE SEED are not kept");
        UpWithSheaf x = Checks.fieldOf("U4T11");
        x.seed(5);
        x.keep(0);
        x.seed(6);
        x.write(2, 0);
        x.again(0);
        due("THE TEXT", x.count(0), 7);
        due("THE SEED", x.seed(0), 6);
    }

    private static void whatIsCounted() {
        about("promise 24, what = 0 to 8, else \"OUTSIDE\"");
        UpWithSheaf x = Checks.fieldOf("U9T01T01");
        allDue("what", new int[] {-1, 9, 10, -9, MIN, MAX}, x::count, OUTSIDE);
        counts("all", x, 8, 2, 9, 3, 0, 0, 0, 0, 3);
    }

    private static void countsOfNobody() {
        about("promise 24, a new object's counts, and those of no THROWERS");
        counts("new", new UpWithSheaf(), 0, 0, 0, 0, 0, 0, 0, 1, 0);
        counts("U9", Checks.fieldOf("U9"), 2, 0, 9, 0, 0, 0, 0, 1, 0);
    }

    private static void bytesCounted() {
        about("promise 24, \"0 bytes of THE TEXT\", from none to 16");
        UpWithSheaf x = new UpWithSheaf();
        for (int bytes = 0; bytes <= 16; bytes++) {
            due("bytes", x.count(0), bytes);
            x.write(1, bytes);
        }
        due("full", x.count(0), 16);
        x.wipe();
        due("empty", x.count(0), 0);
    }

    private static void throwersCounted() {
        about("promise 24, \"1 THROWERS\", from none to four, those OUT too");
        for (int n = 0; n <= 4; n++) {
            UpWithSheaf x = Checks.fieldOf("U9T01T01T01T01".substring(0, 2 + 3 * n));
            due("throwers", x.count(1), n);
            for (int i = 0; i < 3 * n; i++) x.toss(false);
            due("all out", x.count(3), 0);
            due("throwers still", x.count(1), n);
        }
    }

    private static void theBarCounted() {
        about("promise 24, \"2 THE BAR\", from 0 to 11");
        UpWithSheaf x = Checks.fieldOf("U0T01");
        for (int bar = 0; bar <= 13; bar++) {
            due("bar", x.count(2), Math.min(bar, 11));
            x.spare();
        }
    }

    private static void whoIsNotOut() {
        about("promise 24, \"3 who is IN, OVER or SPARED (bits: all that are not OUT)\"");
        UpWithSheaf x = Checks.fieldOf("U0T01T01T01T01");
        Checks.acts(x, "MMMMMMMM");
        int[] due = {15, 14, 12, 8, 0};
        for (int out = 0; out <= 4; out++) {
            due("so many are out: " + out, x.count(3), due[out]);
            x.toss(false);
        }
        UpWithSheaf y = Checks.fieldOf("U0T01T01T01T01");
        Checks.acts(y, "OSM");
        due("over, spared and in", y.count(3), 15);
    }

    private static void whoIsOver() {
        about("promise 24, \"4 who is OVER here (bits)\": nobody as THE BAR rises, it stays at the end");
        UpWithSheaf x = Checks.fieldOf("U0T01T01T01T01");
        int[] due = {0, 1, 3, 7, 0};
        for (int over = 0; over <= 4; over++) {
            due("so many were over: " + over, x.count(4), due[over]);
            x.toss(true);
        }
        UpWithSheaf y = Checks.fieldOf("U9T01T01T01T01");
        Checks.acts(y, "SSSSSSSSOOOO");
        due("all at the end", y.count(4), 15);
        due("nobody spared", y.count(5), 0);
    }

    private static void whoHasSpared() {
        about("promise 24, \"5 who has SPARED itself here (bits)\": nobody as THE BAR rises, it stays at the end");
        UpWithSheaf x = Checks.fieldOf("U0T01T01T01T01");
        int[] due = {0, 1, 3, 7, 0};
        for (int spared = 0; spared <= 4; spared++) {
            due("so many spared: " + spared, x.count(5), due[spared]);
            x.spare();
        }
        UpWithSheaf y = Checks.fieldOf("U9T01T01T01T01");
        Checks.acts(y, "SSSSSSSSSSSS");
        due("all at the end", y.count(5), 15);
        due("nobody over", y.count(4), 0);
    }

    private static void actsCounted() {
        about("promise 24, \"6 ACTS in the row\", from none to 16");
        UpWithSheaf x = Checks.fieldOf("U0T01T01");
        for (int acts = 0; acts <= 20; acts++) {
            due("acts", x.count(6), Math.min(acts, 16));
            x.spare();
        }
        for (int left = 15; left >= 0; left--) {
            x.undo();
            due("left", x.count(6), left);
        }
        x.undo();
        due("none", x.count(6), 0);
        x.spare();
        x.field();
        due("none behind a field", x.count(6), 0);
    }

    private static void endedCounted() {
        about("promise 24, \"7 1 if it is ENDED\", else 0");
        UpWithSheaf x = Checks.fieldOf("U9T01T01");
        for (int acts = 0; acts <= 6; acts++) {
            due("sparing, " + acts, x.count(7), acts == 6 ? 1 : 0);
            x.spare();
        }
        UpWithSheaf y = Checks.fieldOf("U0T01T01");
        for (int acts = 0; acts <= 6; acts++) {
            due("misses, " + acts, y.count(7), acts == 6 ? 1 : 0);
            y.toss(false);
        }
    }

    private static void whoIsFirst() {
        about("promise 24, \"8 who has RANK 0 (bits)\": one, some, all; those OUT too");
        UpWithSheaf x = Checks.fieldOf("U0T01T01T01T01");
        due("all", x.count(8), 15);
        x.toss(false);
        due("all but one", x.count(8), 14);
        x.toss(true);
        due("one", x.count(8), 2);
        x.toss(true);
        due("two", x.count(8), 6);
        x.undo();
        x.undo();
        Checks.acts(x, "MMMMMMMMM");
        due("bits of who is in", x.count(3), 12);
        due("three misses and two", x.count(8), 12);
        Checks.acts(x, "MM");
        due("all out", x.count(3), 0);
        due("all alike", x.count(8), 15);
        UpWithSheaf y = Checks.fieldOf("U0T01T01");
        Checks.acts(y, "OSMSMSM");
        due("0 is out", y.count(3), 2);
        due("0 is first", y.count(8), 1);
    }
}
