/** What the tests of the document's edges share: each names its promise and sentence by `about`. */
abstract class Edges {
    static final int UNKNOWN = -1, OUTSIDE = -2, STATE = -3, FULL = -4, NONE = -9;
    static final int MIN = Integer.MIN_VALUE, MAX = Integer.MAX_VALUE;
    static final int[] NO_SLOT = {-1, 2, 3, MIN, MAX};

    private static final Checks CHECKS = new Checks();

    static void about(String sentence) {
        CHECKS.about(sentence);
    }

    static void due(String what, long got, long want) {
        CHECKS.due(what, got, want);
    }

    /** Both parts of a fraction, the one above and the one below. */
    static void fraction(String what, long above, long below, long dueAbove, long dueBelow) {
        due(what + ", above", above, dueAbove);
        due(what + ", below", below, dueBelow);
    }

    /** All that thrower(who, 0 to 8) answers. */
    static void marks(String what, UpWithSheaf x, int who, int... due) {
        for (int i = 0; i < due.length; i++) due(what + ", thrower(" + who + ", " + i + ")", x.thrower(who, i), due[i]);
    }

    /** All that count(0 to 8) answers. */
    static void counts(String what, UpWithSheaf x, int... due) {
        for (int i = 0; i < due.length; i++) due(what + ", count(" + i + ")", x.count(i), due[i]);
    }

    /** Numbers that are no THROWER's where there are so many. */
    static int[] noThrower(int throwers) {
        return new int[] {-1, throwers, throwers + 1, 4, MIN, MAX};
    }

    static void allDue(String what, int[] numbers, Answer call, long want) {
        for (int number : numbers) due(what + " " + number, call.by(number), want);
    }

    static void finish(Class<?> test) {
        CHECKS.finish(test.getSimpleName());
    }

    interface Answer {
        long by(int number);
    }
}
