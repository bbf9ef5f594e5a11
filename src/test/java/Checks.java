/** Counts the answers that are not as due, and tells each. */
final class Checks {
    private int wrong = 0;
    private int seen = 0;
    private int sentences = 0;
    private int seenBefore = -1;
    private String about = "";

    /** Names the promise and the sentence that the answers from now on are about. */
    void about(String sentence) {
        tellIfUntested();
        about = sentence + ": ";
        seenBefore = seen;
        sentences++;
    }

    private void tellIfUntested() {
        if (seen != seenBefore) return;
        wrong++;
        System.out.println(about + "no answer was looked at");
    }

    void due(String what, long got, long want) {
        seen++;
        if (got != want) {
            wrong++;
            System.out.println(about + what + " answered " + got + ", due is " + want);
        }
    }

    void finish(String name) {
        tellIfUntested();
        String told = sentences == 0 ? "" : sentences + " sentences, ";
        System.out.println(name + ": " + told + seen + " answers, " + wrong + " not as due");
        if (wrong != 0 || seen == 0) System.exit(1);
    }

    /** Writes a text, byte by byte in parts of 8 at most: the last answer. */
    static int put(UpWithSheaf x, String text) {
        int answer = 0;
        for (int from = 0; from < text.length(); from += 8) {
            int to = Math.min(from + 8, text.length());
            long v = 0;
            for (int i = from; i < to; i++) v = v << 8 | text.charAt(i) & 0xFF;
            answer = x.write(to - from, v);
        }
        return answer;
    }

    static UpWithSheaf fieldOf(String text) {
        UpWithSheaf x = new UpWithSheaf();
        put(x, text);
        x.field();
        return x;
    }

    /** Acts as letters: M a miss, O over, S spared. The last answer. */
    static int acts(UpWithSheaf x, String letters) {
        int answer = 0;
        for (char c : letters.toCharArray()) answer = c == 'S' ? x.spare() : x.toss(c == 'O');
        return answer;
    }
}
