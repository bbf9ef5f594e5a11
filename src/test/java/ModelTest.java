import java.util.Random;

/** Long runs of calls by a fixed seed, each answer compared with the Reference's. */
public final class ModelTest {
    private static final int RUNS = 1500;
    // Behind a full call of one(), still fewer than the 512 that are promised.
    private static final int CALLS = 470;
    private static final Checks CHECKS = new Checks();

    private final Random random;
    private final String name;
    private final UpWithSheaf x = new UpWithSheaf();
    private final Reference r = new Reference();
    private int calls = 0;

    private ModelTest(int run) {
        random = new Random(run);
        name = "run " + run + ": ";
    }

    public static void main(String[] args) {
        for (int run = 0; run < RUNS; run++) new ModelTest(run).go();
        allSheets();
        CHECKS.finish("ModelTest");
    }

    private static void allSheets() {
        Reference r = new Reference();
        for (int n = 0; n <= 7; n++) {
            for (int k = -1; k <= n + 1; k++) {
                UpWithSheaf x = new UpWithSheaf();
                for (int m = -1; m <= 19; m++) {
                    CHECKS.due("sheets(" + n + ", " + k + ", " + m + ")", x.sheets(n, k, m), r.sheets(n, k, m));
                }
            }
        }
    }

    private void due(String call, long got, long want) {
        calls++;
        CHECKS.due(name + call, got, want);
    }

    private void go() {
        newField();
        while (calls < CALLS) one();
        for (int what = 0; what <= 8; what++) due("at the end count(" + what + ")", x.count(what), r.count(what));
    }

    /** Mostly in the range, now and then beside it or far from it. */
    private int near(int from, int to) {
        int far = random.nextInt(40);
        if (far == 0) return random.nextInt();
        if (far == 1) return from - 1;
        if (far == 2) return to + 1;
        return from + random.nextInt(to - from + 1);
    }

    private void newField() {
        due("wipe", x.wipe(), r.wipe());
        StringBuilder text = new StringBuilder();
        text.append('U').append((char) ('0' + random.nextInt(10)));
        int throwers = random.nextInt(12) == 0 ? random.nextInt(6) : 1 + random.nextInt(4);
        boolean strong = random.nextBoolean();
        for (int i = 0; i < throwers; i++) {
            text.append('T').append((char) ('0' + (strong ? 5 + random.nextInt(5) : random.nextInt(10))));
            text.append((char) ('1' + random.nextInt(9)));
        }
        if (random.nextInt(4) == 0) text.setCharAt(random.nextInt(text.length()), "UT0195X:/\u0000\u00FF".charAt(random.nextInt(11)));
        if (random.nextInt(6) == 0) text.setLength(random.nextInt(text.length() + 1));
        int from = 0;
        while (from < text.length()) {
            int to = Math.min(text.length(), from + 1 + random.nextInt(8));
            long v = random.nextLong();
            for (int i = from; i < to; i++) v = v << 8 | text.charAt(i);
            due("write", x.write(to - from, v), r.write(to - from, v));
            from = to;
        }
        due("fault of " + text, x.fault(), r.fault());
        due("field of " + text, x.field(), r.field());
    }

    private void one() {
        int kind = random.nextInt(100);
        if (kind < 30) acts();
        else if (kind < 60) looks();
        else if (kind < 90) looksAhead();
        else rest();
    }

    private void acts() {
        int kind = random.nextInt(12);
        if (kind < 8) {
            boolean over = random.nextInt(5) < 2;
            due("toss(" + over + ")", x.toss(over), r.act(over ? 'O' : 'M'));
        } else if (kind < 10) {
            due("spare", x.spare(), r.act('S'));
        } else {
            due("undo", x.undo(), r.undo());
        }
        due("on", x.on(), r.on());
    }

    private void looks() {
        int who = near(0, 3);
        int what = near(0, 8);
        int height = near(0, 11);
        switch (random.nextInt(5)) {
            case 0: due("thrower(" + who + ", " + what + ")", x.thrower(who, what), r.thrower(who, what)); break;
            case 1: due("rank(" + who + ")", x.rank(who), r.rank(who)); break;
            case 2: due("odds(" + who + ", " + height + ")", x.odds(who, height), r.odds(who, height)); break;
            case 3: due("count(" + what + ")", x.count(what), r.count(what)); break;
            default: judge(); break;
        }
    }

    private void judge() {
        int n = near(1, 8);
        int row = 0;
        int figures = n < 1 || n > 8 ? 8 : n;
        for (int i = 0; i < figures; i++) row = row * 10 + (random.nextInt(12) == 0 ? random.nextInt(10) : random.nextInt(3));
        if (random.nextInt(20) == 0) row = random.nextInt();
        if (random.nextInt(20) == 0) row *= 10;
        due("judge(" + n + ", " + row + ")", x.judge(n, row), r.judge(n, row));
    }

    private void looksAhead() {
        int who = near(0, 3);
        int other = near(0, 3);
        int n = near(1, 4);
        boolean upper = random.nextBoolean();
        String told = "(" + who + ", " + n + ", " + upper + ")";
        switch (random.nextInt(5)) {
            case 0: due("clears" + told, x.clears(who, upper), r.clears(who, upper)); break;
            case 1: due("mean" + told, x.mean(who, n, upper), r.mean(who, n, upper)); break;
            case 2: due("wise" + told, x.wise(who, n), r.wise(who, n)); break;
            case 3: due("first" + told, x.first(who, n, upper), r.first(who, n, upper)); break;
            default: due("alone(" + who + ", " + other + ", " + upper + ")", x.alone(who, other, upper), r.alone(who, other, upper));
        }
    }

    private void rest() {
        int slot = near(0, 1);
        long v = random.nextLong();
        int n = near(1, 8);
        switch (random.nextInt(8)) {
            case 0: due("seed(" + v + ")", x.seed(v), r.seed(v)); break;
            case 1: due("fair", x.fair(), r.fair()); break;
            case 2: due("keep(" + slot + ")", x.keep(slot), r.keep(slot)); break;
            case 3: due("again(" + slot + ")", x.again(slot), r.again(slot)); break;
            case 4: due("write(" + n + ", " + v + ")", x.write(n, v), r.write(n, v)); break;
            case 5: due("fault", x.fault(), r.fault()); break;
            case 6: due("field", x.field(), r.field()); break;
            default: if (random.nextInt(3) == 0) newField(); break;
        }
    }
}
