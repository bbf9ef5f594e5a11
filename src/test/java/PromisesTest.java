/** Each promise by itself: answers worked out by hand from the document's words. */
public final class PromisesTest {
    private static final int UNKNOWN = -1, OUTSIDE = -2, STATE = -3, FULL = -4, NONE = -9;
    private static final int MIN = Integer.MIN_VALUE, MAX = Integer.MAX_VALUE;
    private static final Checks CHECKS = new Checks();

    private PromisesTest() { }

    private static void due(String what, long got, long want) {
        CHECKS.due(what, got, want);
    }

    private static void fraction(String what, long above, long below, long dueAbove, long dueBelow) {
        due(what + " above", above, dueAbove);
        due(what + " below", below, dueBelow);
    }

    public static void main(String[] args) {
        newObject();
        write();
        wipe();
        fault();
        field();
        thrower();
        on();
        rank();
        odds();
        toss();
        spare();
        undo();
        judge();
        clears();
        mean();
        wise();
        first();
        alone();
        sheets();
        seed();
        fair();
        keep();
        again();
        count();
        CHECKS.finish("PromisesTest");
    }

    private static void newObject() {
        UpWithSheaf x = new UpWithSheaf();
        int[] counts = {0, 0, 0, 0, 0, 0, 0, 1, 0};
        for (int what = 0; what < counts.length; what++) due("1: count(" + what + ")", x.count(what), counts[what]);
        due("1: on", x.on(), NONE);
        due("1: fault", x.fault(), 0);
        due("1: undo", x.undo(), STATE);
        due("1: thrower", x.thrower(0, 0), UNKNOWN);
        due("1: again(0)", x.again(0), STATE);
        due("1: again(1)", x.again(1), STATE);
        due("1: seed", x.seed(0), 0);
    }

    private static void write() {
        UpWithSheaf x = new UpWithSheaf();
        for (int n : new int[] {0, 9, -1, MIN, MAX}) due("2: write(" + n + ")", x.write(n, 0x55), OUTSIDE);
        due("2: nothing came", x.count(0), 0);
        due("2: highest first", x.write(2, 0x5530), 2);
        due("2: U0", x.fault(), NONE);
        due("2: lowest n alone", x.write(3, 0x4141414141543931L), 5);
        due("2: U0T91", x.fault(), NONE);
        due("2: 13", x.write(8, 0), 13);
        due("2: full at 17", x.write(4, 0), FULL);
        due("2: nothing came of four", x.count(0), 13);
        due("2: 16", x.write(3, 0), 16);
        due("2: full", x.write(1, 0), FULL);
        due("2: OUTSIDE ahead of FULL", x.write(9, 0), OUTSIDE);
        due("2: still 16", x.count(0), 16);

        UpWithSheaf y = new UpWithSheaf();
        due("2: eight", y.write(8, 0x5537543332543435L), 8);
        due("2: eight stand", y.field(), 2);
        due("2: bar", y.count(2), 7);
        due("2: strength of 0", y.thrower(0, 0), 3);
        due("2: wind of 1", y.thrower(1, 1), 5);
        UpWithSheaf z = new UpWithSheaf();
        z.write(1, 0xFFFFFFFFFFFFFF55L);
        due("2: the byte of a negative number", z.fault(), 1);
        z.write(1, 0x130);
        due("2: the byte of a greater number", z.fault(), NONE);
    }

    private static void wipe() {
        UpWithSheaf x = new UpWithSheaf();
        due("3: empty", x.wipe(), 0);
        Checks.put(x, "U4T11");
        x.field();
        due("3: five", x.wipe(), 5);
        due("3: gone", x.wipe(), 0);
        due("3: THE FIELD stays", x.count(1), 1);
        due("3: so does its bar", x.count(2), 4);
        due("3: room again", Checks.put(x, "U0T01T01T01T0123"), 16);
        due("3: sixteen", x.wipe(), 16);
    }

    private static int faultOf(String text) {
        UpWithSheaf x = new UpWithSheaf();
        Checks.put(x, text);
        return x.fault();
    }

    private static void fault() {
        String[] texts = {"", "U", "U0", "U9", "U0T", "U0T0", "U0T01", "U0T99T01T02T03"};
        int[] faults = {0, 1, NONE, NONE, 3, 4, NONE, NONE};
        for (int i = 0; i < texts.length; i++) due("4: fault of " + texts[i], faultOf(texts[i]), faults[i]);
        String[] bad = {"X", "u0", "0U", "UU", "U:", "U/", "U0U", "U00", "U0TT", "U0T/", "U0T:", "U0T00", "U0T0:",
            "U0T0T", "U0T01U", "U0T01T0", "U0T01T00", "U0T01T01T01T01T", "U0T01T01T01T01T0", "U0T01T01T01T01X"};
        int[] places = {0, 0, 0, 1, 1, 1, 2, 2, 3, 3, 3, 4, 4, 4, 5, 7, 7, 14, 14, 14};
        for (int i = 0; i < bad.length; i++) due("4: fault of " + bad[i], faultOf(bad[i]), places[i]);
        due("4: the first of two", faultOf("U0T0XX"), 4);
        due("4: a byte above 127", faultOf("U" + (char) 0xB0), 1);
    }

    private static void field() {
        UpWithSheaf x = new UpWithSheaf();
        due("5: empty", x.field(), STATE);
        Checks.put(x, "U3");
        due("5: nobody", x.field(), 0);
        due("5: ended", x.count(7), 1);
        due("5: bar", x.count(2), 3);
        Checks.put(x, "T52T04");
        due("5: two", x.field(), 2);
        due("5: the text stays", x.count(0), 8);
        due("5: first on", x.on(), 0);
        x.seed(77);
        Checks.acts(x, "MO");
        x.keep(0);
        x.keep(1);
        Checks.put(x, "T");
        due("5: a fault", x.field(), STATE);
        due("5: acts stay", x.count(6), 2);
        due("5: misses stay", x.thrower(0, 6), 1);
        due("5: slots stay", x.again(0), 3);
        Checks.acts(x, "O");
        Checks.put(x, "99");
        due("5: three", x.field(), 3);
        for (int i = 0; i < 3; i++) {
            due("5: nothing tried " + i, x.thrower(i, 2), 0);
            due("5: no best " + i, x.thrower(i, 4), NONE);
            due("5: no misses there " + i, x.thrower(i, 5), NONE);
            due("5: no misses " + i, x.thrower(i, 6), 0);
            due("5: IN " + i, x.thrower(i, 7), 0);
        }
        due("5: row empty", x.undo(), STATE);
        due("5: slot 0 gone", x.again(0), STATE);
        due("5: slot 1 gone", x.again(1), STATE);
        due("5: seed stays", x.seed(0), 77);
        x.wipe();
        Checks.put(x, "U8");
        due("5: none again", x.field(), 0);
        due("5: none known", x.thrower(0, 0), UNKNOWN);
        due("5: ended again", x.on(), NONE);
    }

    private static void thrower() {
        UpWithSheaf x = Checks.fieldOf("U3T52T04");
        for (int who : new int[] {-1, 2, 4, MIN, MAX}) due("6: who " + who, x.thrower(who, 0), UNKNOWN);
        for (int what : new int[] {-1, 9, MIN, MAX}) due("6: what " + what, x.thrower(1, what), OUTSIDE);
        due("6: UNKNOWN ahead", x.thrower(2, 9), UNKNOWN);
        marks("6: at first", x, 0, 5, 2, 0, 0, NONE, NONE, 0, 0, 0);
        marks("6: at first", x, 1, 0, 4, 0, 0, NONE, NONE, 0, 0, 0);
        Checks.acts(x, "MSM");
        marks("6: two misses", x, 0, 5, 2, 2, 2, NONE, NONE, 2, 0, 2);
        marks("6: spared", x, 1, 0, 4, 0, 0, NONE, NONE, 0, 2, 0);
        x.toss(true);
        due("6: risen", x.count(2), 4);
        marks("6: over, risen", x, 0, 5, 2, 3, 0, 3, 2, 2, 0, 0);
        Checks.acts(x, "OM");
        marks("6: over", x, 0, 5, 2, 4, 0, 4, 0, 2, 1, 0);
        marks("6: a miss", x, 1, 0, 4, 1, 1, NONE, NONE, 1, 0, 1);
        Checks.acts(x, "MM");
        due("6: risen again", x.count(2), 5);
        marks("6: out", x, 1, 0, 4, 3, 3, NONE, NONE, 3, 3, 0);
        Checks.acts(x, "MMM");
        marks("6: out at the end", x, 0, 5, 2, 7, 3, 4, 0, 5, 3, 3);
        marks("6: out before", x, 1, 0, 4, 3, 3, NONE, NONE, 3, 3, 0);
    }

    private static void marks(String what, UpWithSheaf x, int who, int... due) {
        for (int i = 0; i < due.length; i++) due(what + " " + who + " what " + i, x.thrower(who, i), due[i]);
    }

    private static void on() {
        due("7: nobody", new UpWithSheaf().on(), NONE);
        UpWithSheaf x = Checks.fieldOf("U0T01T01T01");
        due("7: least", x.on(), 0);
        x.toss(false);
        due("7: next", x.on(), 1);
        x.spare();
        due("7: behind a sparing", x.on(), 2);
        x.toss(true);
        due("7: round", x.on(), 0);
        x.toss(false);
        due("7: itself", x.on(), 0);
        x.toss(true);
        due("7: the least again", x.on(), 0);
        Checks.acts(x, "MMMMMMMMM");
        due("7: ended", x.on(), NONE);
    }

    private static void rank() {
        UpWithSheaf x = Checks.fieldOf("U0T01T01T01T01");
        for (int who : new int[] {-1, 4, MIN, MAX}) due("8: who " + who, x.rank(who), UNKNOWN);
        for (int i = 0; i < 4; i++) due("8: all alike " + i, x.rank(i), 0);
        Checks.acts(x, "MOSM");
        due("8: a best is better", x.rank(1), 0);
        due("8: no miss behind it", x.rank(2), 1);
        due("8: a miss", x.rank(0), 2);
        due("8: a miss too", x.rank(3), 2);
        Checks.acts(x, "OO");
        due("8: fewer misses there", x.rank(1), 0);
        due("8: more misses there", x.rank(0), 1);
        due("8: as many", x.rank(3), 1);
        due("8: none", x.rank(2), 3);
        Checks.acts(x, "OMOO");
        due("8: next height, in all 1", x.rank(0), 1);
        due("8: next height, in all 0", x.rank(2), 0);
        due("8: next height, in all 1 too", x.rank(3), 1);
        due("8: lower, though fewer in all", x.rank(1), 3);
    }

    private static void odds() {
        UpWithSheaf x = Checks.fieldOf("U3T52T04");
        for (int who : new int[] {-1, 2, MIN, MAX}) due("9: who " + who, x.odds(who, 0), UNKNOWN);
        for (int h : new int[] {-1, 12, MIN, MAX}) due("9: height " + h, x.odds(0, h), OUTSIDE);
        due("9: UNKNOWN ahead", x.odds(2, 12), UNKNOWN);
        due("9: nine at most", x.odds(0, 0), 9);
        due("9: five", x.odds(0, 9), 5);
        due("9: three", x.odds(0, 11), 3);
        due("9: one", x.odds(1, 8), 1);
        due("9: nought", x.odds(1, 9), 0);
        due("9: nought at least", x.odds(1, 11), 0);
        Checks.acts(x, "MM");
        due("9: one throw, cut", x.odds(0, 9), 5);
        x.toss(false);
        due("9: two throws", x.odds(0, 9), 4);
        due("9: above nine ahead of the cut", x.odds(0, 4), 9);
        due("9: one of four", x.odds(1, 8), 1);
    }

    private static void toss() {
        due("10: nobody", new UpWithSheaf().toss(true), STATE);
        UpWithSheaf x = Checks.fieldOf("U9T01T01");
        due("10: next", x.toss(true), 1);
        due("10: itself", x.toss(false), 1);
        due("10: misses here", x.thrower(1, 8), 1);
        due("10: rises", x.toss(true), 0);
        due("10: bar", x.count(2), 10);
        due("10: misses there", x.thrower(1, 5), 1);
        due("10: none here", x.thrower(1, 8), 0);
        due("10: none running", x.thrower(1, 3), 0);
        Checks.acts(x, "OO");
        due("10: bar at 11", x.count(2), 11);
        Checks.acts(x, "OM");
        due("10: ended at 11", x.toss(true), NONE);
        due("10: bar stays", x.count(2), 11);
        due("10: over stay", x.count(4), 3);
        due("10: misses here stay", x.thrower(1, 8), 1);
        due("10: no more", x.toss(false), STATE);
        due("10: nothing changed", x.thrower(1, 2), 5);

        UpWithSheaf y = Checks.fieldOf("U2T01T01");
        Checks.acts(y, "MMMMM");
        due("10: the last one out", y.toss(false), NONE);
        due("10: bar stays where all are out", y.count(2), 2);
        due("10: misses stay", y.thrower(0, 8), 3);

        UpWithSheaf z = Checks.fieldOf("U2T01T01T01");
        Checks.acts(z, "OMMMM");
        due("10: out, who is over goes on", z.toss(false), 2);
        due("10: rises", z.toss(false), 0);
        due("10: alone at 3", z.count(2), 3);
        due("10: itself", z.toss(false), 0);
    }

    private static void spare() {
        due("11: nobody", new UpWithSheaf().spare(), STATE);
        UpWithSheaf x = Checks.fieldOf("U9T01T01");
        Checks.acts(x, "MM");
        due("11: next", x.spare(), 1);
        due("11: spared", x.thrower(0, 7), 2);
        due("11: no throw", x.thrower(0, 2), 1);
        due("11: rises", x.spare(), 0);
        due("11: IN again", x.thrower(0, 7), 0);
        due("11: running goes on", x.thrower(0, 3), 1);
        due("11: none here", x.thrower(0, 8), 0);
        Checks.acts(x, "MM");
        due("11: out by the third running", x.toss(false), 1);
        due("11: out", x.thrower(0, 7), 3);
        due("11: rises alone", x.spare(), 1);
        due("11: ended", x.spare(), NONE);
        due("11: spared stay", x.count(5), 2);
        due("11: no more", x.spare(), STATE);
        due("11: no act", x.count(6), 9);
    }

    private static void undo() {
        UpWithSheaf x = Checks.fieldOf("U0T01T01");
        due("12: none", x.undo(), STATE);
        Checks.acts(x, "MOM");
        x.seed(9);
        x.toss(true);
        due("12: risen", x.count(2), 1);
        due("12: three left", x.undo(), 3);
        due("12: bar back", x.count(2), 0);
        due("12: on", x.on(), 0);
        due("12: over here again", x.thrower(1, 7), 1);
        due("12: running again", x.thrower(0, 3), 2);
        due("12: no best again", x.thrower(0, 4), NONE);
        due("12: misses here again", x.thrower(0, 8), 2);
        due("12: the seed stays", x.seed(0), 9);
        due("12: two", x.undo(), 2);
        due("12: one", x.undo(), 1);
        due("12: nought", x.undo(), 0);
        due("12: all undone", x.thrower(0, 2) + x.thrower(1, 2) + x.on(), 0);
        due("12: no more", x.undo(), STATE);
        Checks.acts(x, "SSSSSSSSSSSSSSSSS");
        due("12: sixteen at most", x.count(6), 16);
        for (int left = 15; left >= 0; left--) due("12: left " + left, x.undo(), left);
        due("12: the first is forgotten", x.undo(), STATE);
        due("12: it stays", x.count(5), 1);
        due("12: on behind it", x.on(), 1);

        UpWithSheaf y = Checks.fieldOf("U5T01");
        Checks.acts(y, "MMM");
        due("12: ended", y.count(7), 1);
        due("12: undone", y.undo(), 2);
        due("12: on again", y.on(), 0);
        due("12: not out", y.thrower(0, 7), 0);
        y.undo();
        Checks.acts(y, "O");
        due("12: another way", y.thrower(0, 5), 1);
        due("12: bar", y.count(2), 6);
    }

    private static void judge() {
        UpWithSheaf x = Checks.fieldOf("U0T01T01");
        for (int n : new int[] {0, 9, -1, MIN, MAX}) due("13: n " + n, x.judge(n, 0), OUTSIDE);
        due("13: row below 0", x.judge(3, -1), OUTSIDE);
        due("13: row too long", x.judge(3, 1000), OUTSIDE);
        due("13: row far too long", x.judge(8, MAX), OUTSIDE);
        due("13: row too long for one", x.judge(1, 10), OUTSIDE);
        due("13: noughts ahead", x.judge(3, 2), NONE);
        due("13: no such figure first", x.judge(3, 300), 0);
        due("13: no such figure second", x.judge(3, 190), 1);
        due("13: no such figure last", x.judge(3, 123), 2);
        due("13: the first of two", x.judge(4, 1399), 1);
        due("13: two out", x.judge(6, 0), NONE);
        due("13: ended", x.judge(7, 0), 6);
        due("13: ended ahead of a figure", x.judge(8, 9), 6);
        due("13: spared, then both out", x.judge(8, 20000000), 7);
        due("13: one over", x.judge(8, 1000), NONE);
        due("13: nothing changed", x.count(6) + x.count(2) + x.thrower(0, 2) + x.on(), 0);
        Checks.acts(x, "MMMMM");
        due("13: from now on", x.judge(2, 0), 1);
        due("13: from now on, over", x.judge(4, 1000), NONE);
        due("13: from now on, over, three misses", x.judge(5, 10000), 4);
        x.toss(false);
        due("13: ended at once", x.judge(1, 0), 0);
        due("13: nobody", new UpWithSheaf().judge(2, 22), 0);
        UpWithSheaf y = Checks.fieldOf("U9T01");
        due("13: up to 11", y.judge(4, 2222), 3);
        due("13: order of the figures", y.judge(4, 1023), 3);
        due("13: order of the figures too", y.judge(4, 3201), 0);
    }

    private static void clears() {
        UpWithSheaf x = Checks.fieldOf("U5T01T91");
        for (int who : new int[] {-1, 2, MIN, MAX}) due("14: who " + who, x.clears(who, true), UNKNOWN);
        // Tenths 4, 3, 2: one less 6 * 7 * 8 of 1000.
        fraction("14: tiring", x.clears(0, true), x.clears(0, false), 83, 125);
        fraction("14: nine each", x.clears(1, true), x.clears(1, false), 999, 1000);
        x.toss(false);
        fraction("14: a miss", x.clears(0, true), x.clears(0, false), 11, 25);
        Checks.acts(x, "OM");
        fraction("14: two misses", x.clears(0, true), x.clears(0, false), 1, 5);
        fraction("14: over here, none running", x.clears(1, true), x.clears(1, false), 999, 1000);
        x.toss(false);
        due("14: out", x.clears(0, true), STATE);
        due("14: out, below", x.clears(0, false), STATE);
        UpWithSheaf y = Checks.fieldOf("U9T01T01");
        fraction("14: no hope", y.clears(0, true), y.clears(0, false), 0, 1);
        Checks.acts(y, "SM");
        due("14: nothing changed", y.thrower(0, 7), 2);
        fraction("14: no hope either", y.clears(1, true), y.clears(1, false), 0, 1);
        UpWithSheaf z = Checks.fieldOf("U0T01T01");
        Checks.acts(z, "MMS");
        fraction("14: spared here, one running", z.clears(0, true), z.clears(0, false), 47, 50);
    }

    private static void refusedAhead(int promise, Ahead call) {
        UpWithSheaf x = Checks.fieldOf("U9T01T01");
        for (int who : new int[] {-1, 2, MIN, MAX}) due(promise + ": who " + who, call.of(x, who, 1), UNKNOWN);
        for (int n : new int[] {0, 5, -1, MIN, MAX, 4}) due(promise + ": n " + n, call.of(x, 0, n), OUTSIDE);
        due(promise + ": UNKNOWN ahead", call.of(x, 2, 0), UNKNOWN);
        due(promise + ": up to 11 is not refused", call.of(x, 0, 3) < 0 ? 1 : 0, 0);
        Checks.acts(x, "MMMMM");
        due(promise + ": out", call.of(x, 0, 1), STATE);
        due(promise + ": OUTSIDE ahead", call.of(x, 0, 5), OUTSIDE);
        due(promise + ": above 11 ahead", call.of(x, 0, 4), OUTSIDE);
        due(promise + ": not out", call.of(x, 1, 1) < 0 ? 1 : 0, 0);
        UpWithSheaf y = Checks.fieldOf("U0T01");
        due(promise + ": four", call.of(y, 0, 4) < 0 ? 1 : 0, 0);
        due(promise + ": five", call.of(y, 0, 5), OUTSIDE);
    }

    private interface Ahead {
        long of(UpWithSheaf x, int who, int n);
    }

    private static void mean() {
        refusedAhead(15, (x, who, n) -> x.mean(who, n, true));
        refusedAhead(15, (x, who, n) -> x.mean(who, n, false));
        UpWithSheaf x = Checks.fieldOf("U5T01");
        fraction("15: one height", x.mean(0, 1, true), x.mean(0, 1, false), 83, 125);
        UpWithSheaf y = Checks.fieldOf("U8T01");
        // 0.1, then nothing: a throw tires it.
        fraction("15: one tenth", y.mean(0, 2, true), y.mean(0, 2, false), 1, 10);
        UpWithSheaf z = Checks.fieldOf("U9T01");
        fraction("15: no hope", z.mean(0, 3, true), z.mean(0, 3, false), 0, 1);
        UpWithSheaf s = Checks.fieldOf("U0T91");
        // It spares itself till the last height: n times 0.999.
        fraction("15: sparing to the second", s.mean(0, 2, true), s.mean(0, 2, false), 999, 500);
        fraction("15: sparing to the fourth", s.mean(0, 4, true), s.mean(0, 4, false), 999, 250);
        Checks.acts(s, "MM");
        // One try is left. Trying here: 0.9 * (2 * 0.999 + 0.001) is less than 2 * 0.9.
        fraction("15: two running", s.mean(0, 2, true), s.mean(0, 2, false), 9, 5);
        due("15: nothing changed", s.thrower(0, 3), 2);
        UpWithSheaf t = Checks.fieldOf("U7T09");
        Checks.acts(t, "MM");
        // Over at 7 by 0.2, none is running then: 1 and 0.271 more; sparing: 0.1 of 2.
        fraction("15: none running behind being over", t.mean(0, 2, true), t.mean(0, 2, false), 1271, 5000);
    }

    private static void wise() {
        refusedAhead(16, (x, who, n) -> x.wise(who, n));
        UpWithSheaf s = Checks.fieldOf("U0T91");
        due("16: one height", s.wise(0, 1), 1);
        due("16: spare", s.wise(0, 2), 0);
        due("16: spare of four", s.wise(0, 4), 0);
        Checks.acts(s, "MM");
        due("16: two running: spare", s.wise(0, 2), 0);
        UpWithSheaf z = Checks.fieldOf("U9T01");
        due("16: as good as anything", z.wise(0, 3), 1);
        UpWithSheaf t = Checks.fieldOf("U7T09");
        Checks.acts(t, "MM");
        due("16: two running: try", t.wise(0, 2), 1);
        UpWithSheaf y = Checks.fieldOf("U8T01");
        due("16: here or never", y.wise(0, 2), 1);
    }

    private static void first() {
        refusedAhead(17, (x, who, n) -> x.first(who, n, true));
        refusedAhead(17, (x, who, n) -> x.first(who, n, false));
        UpWithSheaf x = Checks.fieldOf("U3T52T04");
        fraction("17: nobody is better than who has no misses", x.first(0, 1, true), x.first(0, 1, false), 999, 1000);
        x.toss(true);
        // It must be over at once.
        fraction("17: one height", x.first(1, 1, true), x.first(1, 1, false), 3, 5);
        // 0.6 * 0.875 + 0.24 * 0.85 + 0.096 * 0.82.
        fraction("17: two heights", x.first(1, 2, true), x.first(1, 2, false), 20193, 25000);
        fraction("17: over already", x.first(0, 1, true), x.first(0, 1, false), 1, 1);
        x.toss(false);
        fraction("17: a miss there too many", x.first(1, 1, true), x.first(1, 1, false), 0, 1);
        x.toss(true);
        // Thrower 0 has no miss; being over at 4 at once or behind any misses is better than what 1 has.
        // Tenths 5, 5, 4: one less 0.5 * 0.5 * 0.6.
        fraction("17: by the height", x.first(1, 1, true), x.first(1, 1, false), 17, 20);
        due("17: nothing changed", x.thrower(1, 2), 2);

        UpWithSheaf y = Checks.fieldOf("U8T02T02");
        Checks.acts(y, "MO");
        // 0 and 1 would be alike but for the miss that 0 made here.
        fraction("17: misses here count", y.first(0, 1, true), y.first(0, 1, false), 0, 1);
        // Over here already: a try more that is over has the same marks; else the best that it has stays.
        fraction("17: as if not over", y.first(1, 1, true), y.first(1, 1, false), 1, 1);

        UpWithSheaf z = Checks.fieldOf("U0T99T99");
        Checks.acts(z, "MOMO");
        // Marks 0: best 0, 2 misses there; 1: best 0 by none. At 1 tenths are 9 each.
        fraction("17: three tries again", z.first(0, 1, true), z.first(0, 1, false), 999, 1000);
        fraction("17: the best stays when out", z.first(1, 1, true), z.first(1, 1, false), 1, 1);
    }

    private static void alone() {
        UpWithSheaf x = Checks.fieldOf("U3T52T04T01");
        int[][] unknown = {{-1, 0}, {0, -1}, {3, 0}, {0, 3}, {3, 3}, {MIN, MAX}};
        for (int[] two : unknown) due("18: " + two[0] + ", " + two[1], x.alone(two[0], two[1], true), UNKNOWN);
        due("18: both are one", x.alone(1, 1, true), OUTSIDE);
        // 0.999 * 0.064 + 0.001 * 0.936.
        fraction("18: one of two", x.alone(0, 1, true), x.alone(0, 1, false), 8109, 125000);
        fraction("18: either way", x.alone(1, 0, true), x.alone(1, 0, false), 8109, 125000);
        Checks.acts(x, "MOMMSM");
        due("18: the first out", x.alone(0, 1, true), STATE);
        due("18: the second out", x.alone(1, 0, false), STATE);
        due("18: OUTSIDE ahead", x.alone(0, 0, true), OUTSIDE);
        due("18: UNKNOWN ahead", x.alone(0, 3, true), UNKNOWN);
        UpWithSheaf y = Checks.fieldOf("U9T01T01");
        fraction("18: none ever", y.alone(0, 1, true), y.alone(0, 1, false), 0, 1);
    }

    private static void sheets() {
        int[][] outside = {{0, 0, 0}, {7, 0, 0}, {-1, 0, 0}, {MIN, 0, 0}, {MAX, 0, 0}, {2, 3, 0}, {2, -1, 0},
            {2, 0, 19}, {2, 0, -1}, {2, MAX, 0}, {2, 0, MAX}, {2, MIN, MIN}};
        UpWithSheaf x = Checks.fieldOf("U3T52T04");
        for (int[] o : outside) {
            due("19: " + o[0] + ", " + o[1] + ", " + o[2], x.sheets(o[0], o[1], o[2]), OUTSIDE);
        }
        int[][][] all = {
            {{1, 1, 1, 1}, {1, 1, 1}},
            {{1, 2, 3, 4}, {1, 2, 3, 3, 2, 1}, {2, 4, 6, 2, 1}}
        };
        for (int n = 1; n <= 2; n++) {
            for (int k = 0; k <= n; k++) {
                int[] due = all[n - 1][k];
                for (int m = 0; m <= 18; m++) {
                    due("19: sheets(" + n + ", " + k + ", " + m + ")", x.sheets(n, k, m), m < due.length ? due[m] : 0);
                }
            }
        }
        due("19: six, over at each behind two", x.sheets(6, 6, 12), 1);
        due("19: six, out by the most misses", x.sheets(6, 5, 13), 1);
        due("19: six, no more misses", x.sheets(6, 5, 14), 0);
        due("19: six, none", x.sheets(6, 0, 0), 1);
        due("19: six, over first", x.sheets(6, 1, 0), 1);
        due("19: six, over last", x.sheets(6, 6, 0), 32);
    }

    private static void seed() {
        UpWithSheaf x = new UpWithSheaf();
        due("20: 0 at first", x.seed(Long.MIN_VALUE), 0);
        due("20: what it was", x.seed(-5), Long.MIN_VALUE);
        due("20: and again", x.seed(Long.MAX_VALUE), -5);
        Checks.put(x, "U0T01");
        x.field();
        x.toss(true);
        x.keep(0);
        x.undo();
        x.again(0);
        due("20: nothing else sets it", x.seed(1), Long.MAX_VALUE);
    }

    private static long next(long seed) {
        return seed * 6364136223846793005L + 1442695040888963407L;
    }

    private static void fair() {
        UpWithSheaf nobody = new UpWithSheaf();
        nobody.seed(4);
        due("21: nobody", nobody.fair(), 0);
        due("21: no step", nobody.seed(0), 4);

        UpWithSheaf x = Checks.fieldOf("U9T01");
        due("21: no hope", x.fair(), 1);
        due("21: three steps", x.seed(0), next(next(next(0))));
        due("21: nothing changed", x.thrower(0, 2) + x.count(6) + x.count(7), 0);
        due("21: bar as it was", x.count(2), 9);

        // Many seeds, so that what is left by 10 lies on both sides of the 7 tenths at 11.
        for (long s = -300; s <= 300; s++) one(s);

        UpWithSheaf y = Checks.fieldOf("U0T01T99");
        Checks.acts(y, "MOMM");
        y.seed(3);
        due("21: two", y.fair(), 2);
        due("21: once more from where it was", y.fair(), 2);
        due("21: still one act to be undone", y.undo(), 3);
    }

    /** At 11 thrower 0 has spared itself, its best is 10; thrower 1 has one try left: one draw decides. */
    private static void one(long seed) {
        UpWithSheaf x = Checks.fieldOf("U9T91T99");
        Checks.acts(x, "SSOSSMM");
        due("21: at 11", x.count(2), 11);
        due("21: seven tenths", x.odds(1, 11), 7);
        x.seed(seed);
        long after = next(seed);
        boolean over = (after >>> 33) % 10 < 7;
        due("21: by seed " + seed, x.fair(), over ? 2 : 1);
        due("21: one step from " + seed, x.seed(0), after);
    }

    private static void keep() {
        UpWithSheaf x = new UpWithSheaf();
        for (int slot : new int[] {-1, 2, MIN, MAX}) due("22: slot " + slot, x.keep(slot), UNKNOWN);
        due("22: at first", x.keep(1), 0);
        due("22: that one alone", x.again(0), STATE);
        due("22: kept", x.again(1), 0);
        Checks.put(x, "U6T01T01");
        x.field();
        Checks.acts(x, "MO");
        due("22: bar", x.keep(0), 6);
        due("22: acts stay", x.count(6), 2);
        due("22: undone as before", x.undo(), 1);
        due("22: over the other", x.keep(0), 6);
        x.toss(false);
        x.again(0);
        due("22: the later one", x.thrower(1, 2), 0);
    }

    private static void again() {
        UpWithSheaf x = Checks.fieldOf("U6T01T01");
        for (int slot : new int[] {-1, 2, MIN, MAX}) due("23: slot " + slot, x.again(slot), UNKNOWN);
        due("23: none kept", x.again(0), STATE);
        Checks.acts(x, "MOM");
        x.keep(0);
        Checks.acts(x, "OM");
        x.keep(1);
        Checks.acts(x, "OSSMSMM");
        due("23: 0", x.again(0), 6);
        due("23: on", x.on(), 0);
        due("23: row is empty", x.undo(), STATE);
        due("23: misses", x.thrower(0, 6), 2);
        due("23: running", x.thrower(0, 3), 2);
        due("23: over", x.count(4), 2);
        Checks.acts(x, "S");
        due("23: one act", x.count(6), 1);
        due("23: 1", x.again(1), 7);
        due("23: misses there", x.thrower(0, 5), 2);
        due("23: here", x.thrower(0, 8), 1);
        due("23: on behind it", x.on(), 1);
        due("23: 0 once more", x.again(0), 6);
        due("23: as it was", x.thrower(0, 2), 2);
        UpWithSheaf y = Checks.fieldOf("U6T01");
        Checks.acts(y, "MMM");
        y.keep(0);
        y.undo();
        due("23: ended", y.again(0), 6);
        due("23: nobody on", y.on(), NONE);
        due("23: the text stays", y.count(0), 5);
    }

    private static void count() {
        UpWithSheaf x = Checks.fieldOf("U9T01T01T01T01");
        for (int what : new int[] {-1, 9, MIN, MAX}) due("24: what " + what, x.count(what), OUTSIDE);
        counts("24: at first", x, 14, 4, 9, 15, 0, 0, 0, 0, 15);
        Checks.acts(x, "OSMM");
        counts("24: turns", x, 14, 4, 9, 15, 1, 2, 4, 0, 1);
        Checks.acts(x, "MMM");
        counts("24: one out", x, 14, 4, 9, 11, 1, 2, 7, 0, 1);
        Checks.acts(x, "O");
        counts("24: risen", x, 14, 4, 10, 11, 0, 0, 8, 0, 1);
        Checks.acts(x, "SOS");
        counts("24: at 11", x, 14, 4, 11, 11, 0, 0, 11, 0, 2);
        Checks.acts(x, "MOSO");
        counts("24: ended", x, 14, 4, 11, 11, 3, 8, 15, 1, 2);
        x.wipe();
        due("24: no bytes", x.count(0), 0);
    }

    private static void counts(String what, UpWithSheaf x, int... due) {
        for (int i = 0; i < due.length; i++) due(what + " count(" + i + ")", x.count(i), due[i]);
    }
}
