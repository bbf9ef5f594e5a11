import java.util.ArrayList;
import java.util.List;

/**
 * "What is refused changes nothing", call by call: of two objects made alike one has the refused calls besides;
 * then all that can be asked of both is the same, as is what they kept and what they undo.
 */
public final class RefusalsTest extends Edges {
    private static final int[] OUTSIDE_N = {0, 5, -1, MIN, MAX};

    private RefusalsTest() { }

    public static void main(String[] args) {
        howTheyAreMade();
        writeOutside();
        writeFull();
        fieldOfAFault();
        ofNoThrower();
        thrower();
        odds();
        actsWhenEnded();
        undoOfNothing();
        judge();
        ofWhoIsOut();
        heights();
        alone();
        sheets();
        slots();
        noneKept();
        count();
        whatIsOnlyAsked();
        finish(RefusalsTest.class);
    }

    private interface Made {
        UpWithSheaf anew();
    }

    private interface Calls {
        void on(UpWithSheaf x);
    }

    /** At 11, 1 is OUT, both SLOTS are kept, there is room for five bytes more. */
    private static UpWithSheaf rich() {
        UpWithSheaf x = Checks.fieldOf("U9T91T05T55");
        x.seed(1234567);
        Checks.acts(x, "OMS");
        x.keep(0);
        Checks.acts(x, "SOMMMO");
        x.keep(1);
        Checks.acts(x, "M");
        return x;
    }

    /** More ACTS than THE ROW holds, and THE TEXT full, with a FAULT. */
    private static UpWithSheaf full() {
        UpWithSheaf x = Checks.fieldOf("U0T91T05T55T99");
        Checks.acts(x, "OOOOSSSSMMMMMSOO");
        x.keep(0);
        Checks.acts(x, "SOM");
        x.write(2, 0x5430);
        return x;
    }

    /** At 11, 0 is OVER, 1 has SPARED itself, 2 is OUT. */
    private static UpWithSheaf ended() {
        UpWithSheaf x = Checks.fieldOf("U9T91T05T55");
        Checks.acts(x, "OSSMSMOSOSM");
        x.keep(1);
        Checks.acts(x, "M");
        return x;
    }

    private static UpWithSheaf allOut() {
        UpWithSheaf x = Checks.fieldOf("U3T91T05");
        Checks.acts(x, "MMMMM");
        x.keep(0);
        x.toss(false);
        return x;
    }

    private static void howTheyAreMade() {
        about("\"What is refused changes nothing\": the objects that are looked at");
        counts("rich", rich(), 11, 3, 11, 5, 0, 0, 10, 0, 1);
        counts("full", full(), 16, 4, 3, 15, 1, 0, 16, 0, 1);
        counts("ended", ended(), 11, 3, 11, 3, 1, 2, 12, 1, 1);
        counts("all out", allOut(), 8, 2, 3, 0, 0, 0, 6, 1, 3);
    }

    private static List<Long> seen(UpWithSheaf x) {
        List<Long> all = new ArrayList<>();
        all.add((long) x.on());
        all.add((long) x.fault());
        for (int what = 0; what <= 8; what++) all.add((long) x.count(what));
        for (int who = 0; who < 4; who++) {
            all.add((long) x.rank(who));
            for (int what = 0; what <= 8; what++) all.add((long) x.thrower(who, what));
        }
        return all;
    }

    /** All that can be asked, then all that undoing and going on bring back, then what THE TEXT holds. */
    private static List<Long> wholeOf(UpWithSheaf x) {
        List<Long> all = seen(x);
        long seed = x.seed(0);
        all.add(seed);
        x.seed(seed);
        for (int i = 0; i <= 16; i++) {
            all.add((long) x.undo());
            all.add((long) x.on());
            for (int what = 2; what <= 5; what++) all.add((long) x.count(what));
        }
        all.addAll(seen(x));
        for (int slot = 0; slot <= 1; slot++) {
            all.add((long) x.again(slot));
            all.addAll(seen(x));
        }
        all.add((long) x.field());
        all.addAll(seen(x));
        all.add((long) x.wipe());
        return all;
    }

    private static void changesNothing(String what, Made made, Calls refused) {
        UpWithSheaf with = made.anew();
        refused.on(with);
        List<Long> changed = wholeOf(with);
        List<Long> due = wholeOf(made.anew());
        due(what + ": as many answers", changed.size(), due.size());
        for (int i = 0; i < due.size(); i++) due(what + ": answer " + i + " behind it", changed.get(i), due.get(i));
    }

    private static void inAll(Calls refused) {
        changesNothing("a new object", UpWithSheaf::new, refused);
        changesNothing("U9", () -> Checks.fieldOf("U9"), refused);
        changesNothing("a new field", () -> Checks.fieldOf("U9T91T05T55"), refused);
        changesNothing("rich", RefusalsTest::rich, refused);
        changesNothing("full", RefusalsTest::full, refused);
        changesNothing("ended", RefusalsTest::ended, refused);
        changesNothing("all out", RefusalsTest::allOut, refused);
    }

    private static void writeOutside() {
        about("promise 2, OUTSIDE changes nothing, and is ahead of FULL");
        inAll(x -> {
            for (int n : new int[] {0, 9, -1, 17, MIN, MAX}) due("write " + n, x.write(n, 0x5555), OUTSIDE);
        });
    }

    private static void writeFull() {
        about("promise 2, FULL changes nothing");
        changesNothing("full", RefusalsTest::full, x -> {
            for (int n = 1; n <= 8; n++) due("write " + n, x.write(n, 0x5555), FULL);
        });
        changesNothing("rich", RefusalsTest::rich, x -> {
            for (int n = 6; n <= 8; n++) due("write " + n, x.write(n, 0x5555), FULL);
        });
    }

    private static void fieldOfAFault() {
        about("promise 5, STATE changes nothing");
        changesNothing("a new object", UpWithSheaf::new, x -> due("field", x.field(), STATE));
        changesNothing("full", RefusalsTest::full, x -> due("field", x.field(), STATE));
        String[] faults = {"", "X", "U", "U:", "U5T", "U5T0", "U5T00", "U5T01T01T01T01T"};
        for (String text : faults) {
            Made made = () -> {
                UpWithSheaf x = rich();
                x.wipe();
                Checks.put(x, text);
                return x;
            };
            changesNothing("of " + text, made, x -> due("field", x.field(), STATE));
        }
    }

    private static void ofNoThrower() {
        about("promises 6, 8, 9, 14 to 18, UNKNOWN changes nothing, and is the first of all");
        inAll(x -> {
            for (int who : noThrower(x.count(1))) {
                due("thrower", x.thrower(who, 9), UNKNOWN);
                due("rank", x.rank(who), UNKNOWN);
                due("odds", x.odds(who, 12), UNKNOWN);
                due("clears", x.clears(who, true), UNKNOWN);
                due("mean", x.mean(who, 5, true), UNKNOWN);
                due("wise", x.wise(who, 0), UNKNOWN);
                due("first", x.first(who, -1, false), UNKNOWN);
                due("alone", x.alone(who, who, true), UNKNOWN);
                due("alone", x.alone(0, who, false), UNKNOWN);
            }
        });
    }

    private static void thrower() {
        about("promise 6, OUTSIDE changes nothing");
        changesNothing("rich", RefusalsTest::rich, x -> {
            for (int who = 0; who < 3; who++) {
                for (int what : new int[] {-1, 9, MIN, MAX}) due("thrower " + who, x.thrower(who, what), OUTSIDE);
            }
        });
    }

    private static void odds() {
        about("promise 9, OUTSIDE changes nothing");
        changesNothing("rich", RefusalsTest::rich, x -> {
            for (int who = 0; who < 3; who++) {
                for (int height : new int[] {-1, 12, MIN, MAX}) due("odds " + who, x.odds(who, height), OUTSIDE);
            }
        });
    }

    private static void actsWhenEnded() {
        about("promises 10 and 11, STATE changes nothing");
        Made[] all = {UpWithSheaf::new, () -> Checks.fieldOf("U9"), RefusalsTest::ended, RefusalsTest::allOut};
        for (Made made : all) {
            changesNothing("ended", made, x -> {
                for (int i = 0; i < 20; i++) {
                    due("over", x.toss(true), STATE);
                    due("a miss", x.toss(false), STATE);
                    due("spare", x.spare(), STATE);
                }
            });
        }
    }

    private static void undoOfNothing() {
        about("promise 12, STATE changes nothing");
        Made goneOn = () -> {
            UpWithSheaf x = rich();
            x.again(0);
            return x;
        };
        Made undone = () -> {
            UpWithSheaf x = full();
            for (int i = 0; i < 16; i++) x.undo();
            return x;
        };
        for (Made made : new Made[] {UpWithSheaf::new, () -> Checks.fieldOf("U9T91T05"), goneOn, undone}) {
            changesNothing("no act", made, x -> {
                for (int i = 0; i < 20; i++) due("undo", x.undo(), STATE);
            });
        }
        UpWithSheaf x = undone.anew();
        x.undo();
        for (int acts = 1; acts <= 16; acts++) {
            x.spare();
            due("acts behind it", x.count(6), acts);
        }
    }

    private static void judge() {
        about("promise 13, OUTSIDE changes nothing, told ACTS neither");
        inAll(x -> {
            for (int n : new int[] {0, 9, -1, MIN, MAX}) due("judge " + n, x.judge(n, 0), OUTSIDE);
            for (int row : new int[] {-1, 1000, MIN, MAX}) due("judge " + row, x.judge(3, row), OUTSIDE);
            for (int row : new int[] {0, 11111111, 22222222, 99999999, 120120}) x.judge(8, row);
        });
    }

    private static void ofWhoIsOut() {
        about("promises 14 to 18, STATE changes nothing");
        changesNothing("rich", RefusalsTest::rich, x -> {
            due("out", x.thrower(1, 7), 3);
            due("mean", x.mean(1, 1, true), STATE);
            due("mean, below", x.mean(1, 1, false), STATE);
            due("wise", x.wise(1, 1), STATE);
            due("first", x.first(1, 1, true), STATE);
            due("first, below", x.first(1, 1, false), STATE);
            due("clears", x.clears(1, true), STATE);
            due("clears, below", x.clears(1, false), STATE);
            due("alone", x.alone(1, 2, true), STATE);
            due("alone", x.alone(0, 1, false), STATE);
        });
    }

    private static void heights() {
        about("promises 15 to 17, OUTSIDE changes nothing, and is ahead of STATE");
        changesNothing("rich", RefusalsTest::rich, x -> {
            due("bar", x.count(2), 11);
            for (int who = 0; who < 3; who++) {
                if (who == 1) continue;
                due("mean above 11", x.mean(who, 2, true), OUTSIDE);
                due("wise above 11", x.wise(who, 2), OUTSIDE);
                due("first above 11", x.first(who, 2, true), OUTSIDE);
            }
            for (int who = 0; who < 3; who++) {
                for (int n : OUTSIDE_N) {
                    due("mean", x.mean(who, n, true), OUTSIDE);
                    due("wise", x.wise(who, n), OUTSIDE);
                    due("first", x.first(who, n, false), OUTSIDE);
                }
            }
        });
    }

    private static void alone() {
        about("promise 18, OUTSIDE changes nothing, and is ahead of STATE");
        changesNothing("rich", RefusalsTest::rich, x -> {
            for (int who = 0; who < 3; who++) due("alone", x.alone(who, who, true), OUTSIDE);
        });
    }

    private static void sheets() {
        about("promise 19, OUTSIDE changes nothing, SHEETS neither");
        inAll(x -> {
            for (int[] o : new int[][] {{0, 0, 0}, {7, 0, 0}, {3, 4, 0}, {3, -1, 0}, {3, 0, 19}, {3, 0, -1}}) {
                due("sheets", x.sheets(o[0], o[1], o[2]), OUTSIDE);
            }
            for (int n = 1; n <= 6; n++) x.sheets(n, n, n);
        });
        UpWithSheaf x = new UpWithSheaf();
        due("ahead of what is refused", x.sheets(6, 3, 7), 141);
        x.sheets(7, 3, 7);
        due("behind what is refused", x.sheets(6, 3, 7), 141);
    }

    private static void slots() {
        about("promises 22 and 23, UNKNOWN changes nothing");
        inAll(x -> {
            for (int slot : NO_SLOT) {
                due("keep", x.keep(slot), UNKNOWN);
                due("again", x.again(slot), UNKNOWN);
            }
        });
    }

    private static void noneKept() {
        about("promise 23, STATE changes nothing");
        changesNothing("a new object", UpWithSheaf::new, x -> {
            due("0", x.again(0), STATE);
            due("1", x.again(1), STATE);
        });
        changesNothing("full", RefusalsTest::full, x -> due("1", x.again(1), STATE));
        changesNothing("ended", RefusalsTest::ended, x -> due("0", x.again(0), STATE));
        changesNothing("all out", RefusalsTest::allOut, x -> due("1", x.again(1), STATE));
    }

    private static void count() {
        about("promise 24, OUTSIDE changes nothing");
        inAll(x -> {
            for (int what : new int[] {-1, 9, MIN, MAX}) due("count", x.count(what), OUTSIDE);
        });
    }

    private static void whatIsOnlyAsked() {
        about("promises 4, 6 to 9, 14 to 19, 24: what is asked changes nothing");
        inAll(x -> {
            for (int who = 0; who < 4; who++) {
                for (int height = 0; height <= 11; height += 3) x.odds(who, height);
                x.clears(who, true);
                for (int n = 1; n <= 4; n++) {
                    x.mean(who, n, true);
                    x.wise(who, n);
                    x.first(who, n, true);
                }
                for (int other = 0; other < 4; other++) x.alone(who, other, true);
            }
        });
    }
}
