import java.math.BigDecimal;
import java.math.BigInteger;
import java.nio.charset.StandardCharsets;
import java.util.ArrayDeque;
import java.util.ArrayList;
import java.util.HashMap;
import java.util.List;
import java.util.Map;
import java.util.regex.Matcher;
import java.util.regex.Pattern;

/**
 * The document's words once more, held another way than the program holds them: a thrower is what it did, a
 * word of M, O, S for each height; its marks are read off these words. Chances are exact decimals.
 */
final class Reference {
    static final int UNKNOWN = -1, OUTSIDE = -2, STATE = -3, FULL = -4, NONE = -9;

    private static final Pattern FIELD = Pattern.compile("U[0-9](T[0-9][1-9]){0,4}", Pattern.DOTALL);
    private static final Map<Integer, Map<String, Integer>> ALL_SHEETS = new HashMap<>();

    /** All that acts change. */
    private record Position(int bar, int on, List<Life> lives) { }

    /** A thrower's words, the last of them at the bar as it is, from the height `from` on. */
    private record Life(int strength, int wind, int from, List<String> words) {
        String all() {
            return String.join("", words);
        }

        String word() {
            return words.get(words.size() - 1);
        }

        int tries() {
            return all().replace("S", "").length();
        }

        int running() {
            return misses(all().substring(all().lastIndexOf('O') + 1));
        }

        boolean isOut() {
            return running() == 3;
        }

        int how() {
            return isOut() ? 3 : word().endsWith("O") ? 1 : word().endsWith("S") ? 2 : 0;
        }

        int lastOver() {
            for (int i = words.size() - 1; i >= 0; i--) if (words.get(i).endsWith("O")) return i;
            return -1;
        }

        int best() {
            return lastOver() < 0 ? NONE : from + lastOver();
        }

        int there() {
            return lastOver() < 0 ? NONE : misses(words.get(lastOver()));
        }

        int odds(int height) {
            return Math.min(9, Math.max(0, 9 + strength - height - tries() / wind));
        }

        Life with(char c) {
            List<String> more = new ArrayList<>(words);
            more.set(more.size() - 1, word() + c);
            return new Life(strength, wind, from, more);
        }

        Life risen() {
            List<String> more = new ArrayList<>(words);
            more.add("");
            return new Life(strength, wind, from, more);
        }
    }

    private static int misses(String word) {
        return (int) word.chars().filter(c -> c == 'M').count();
    }

    private String text = "";
    private Position now = new Position(0, NONE, List.of());
    private final ArrayDeque<Position> row = new ArrayDeque<>();
    private final Position[] slots = new Position[2];
    private BigInteger seed = BigInteger.ZERO;

    int write(int n, long v) {
        if (n < 1 || n > 8) return OUTSIDE;
        if (text.length() + n > 16) return FULL;
        byte[] eight = java.nio.ByteBuffer.allocate(8).putLong(v).array();
        text += new String(eight, 8 - n, n, StandardCharsets.ISO_8859_1);
        return text.length();
    }

    int wipe() {
        int was = text.length();
        text = "";
        return was;
    }

    int fault() {
        for (int i = 1; i <= text.length(); i++) {
            Matcher m = FIELD.matcher(text.substring(0, i));
            if (!m.matches() && !m.hitEnd()) return i - 1;
        }
        return FIELD.matcher(text).matches() ? NONE : text.length();
    }

    int field() {
        if (fault() != NONE) return STATE;
        int bar = text.charAt(1) - '0';
        List<Life> lives = new ArrayList<>();
        for (String told : text.substring(2).split("T")) {
            if (told.isEmpty()) continue;
            lives.add(new Life(told.charAt(0) - '0', told.charAt(1) - '0', bar, List.of("")));
        }
        now = new Position(bar, lives.isEmpty() ? NONE : 0, lives);
        row.clear();
        slots[0] = null;
        slots[1] = null;
        return lives.size();
    }

    private boolean unknown(int i) {
        return i < 0 || i >= now.lives.size();
    }

    int thrower(int i, int what) {
        if (unknown(i)) return UNKNOWN;
        if (what < 0 || what > 8) return OUTSIDE;
        Life l = now.lives.get(i);
        return new int[] {l.strength, l.wind, l.tries(), l.running(), l.best(), l.there(), misses(l.all()), l.how(),
            misses(l.word())}[what];
    }

    int on() {
        return now.on;
    }

    /** Best, there, in all, told as one number: the greater, the better. */
    private static long worth(int best, int there, int misses) {
        return best * 1_000_000L - there * 1_000L - misses;
    }

    private static long worth(Life l) {
        return worth(l.best(), l.there(), misses(l.all()));
    }

    private static int rank(Position p, int i) {
        return (int) p.lives.stream().filter(l -> worth(l) > worth(p.lives.get(i))).count();
    }

    int rank(int i) {
        return unknown(i) ? UNKNOWN : rank(now, i);
    }

    int odds(int i, int height) {
        if (unknown(i)) return UNKNOWN;
        if (height < 0 || height > 11) return OUTSIDE;
        return now.lives.get(i).odds(height);
    }

    private static Position behind(Position p, char c) {
        List<Life> lives = new ArrayList<>(p.lives);
        lives.set(p.on, lives.get(p.on).with(c));
        int n = lives.size();
        for (int step = 1; step <= n; step++) {
            int next = (p.on + step) % n;
            if (lives.get(next).how() == 0) return new Position(p.bar, next, lives);
        }
        if (p.bar == 11 || lives.stream().allMatch(Life::isOut)) return new Position(p.bar, NONE, lives);
        lives.replaceAll(Life::risen);
        int least = 0;
        while (lives.get(least).isOut()) least++;
        return new Position(p.bar + 1, least, lives);
    }

    int act(char c) {
        if (now.on == NONE) return STATE;
        row.addLast(now);
        if (row.size() > 16) row.removeFirst();
        now = behind(now, c);
        return now.on;
    }

    int undo() {
        if (row.isEmpty()) return STATE;
        now = row.removeLast();
        return row.size();
    }

    int judge(int n, int figures) {
        if (n < 1 || n > 8 || figures < 0) return OUTSIDE;
        String told = String.valueOf(figures);
        if (told.length() > n) return OUTSIDE;
        told = "0".repeat(n - told.length()) + told;
        Position p = now;
        for (int i = 0; i < n; i++) {
            if (p.on == NONE || "012".indexOf(told.charAt(i)) < 0) return i;
            p = behind(p, "MOS".charAt(told.charAt(i) - '0'));
        }
        return NONE;
    }

    private int refusedAhead(int i, int n) {
        if (unknown(i)) return UNKNOWN;
        if (n < 1 || n > 4 || now.bar + n - 1 > 11) return OUTSIDE;
        return now.lives.get(i).isOut() ? STATE : 0;
    }

    private static BigDecimal tenths(int odds) {
        return BigDecimal.valueOf(odds, 1);
    }

    private static long told(BigDecimal chance, boolean upper) {
        BigInteger below = BigInteger.TEN.pow(chance.scale());
        BigInteger common = chance.unscaledValue().gcd(below);
        return (upper ? chance.unscaledValue() : below).divide(common).longValueExact();
    }

    /** What was tried from now on, a word for each height: how many are running behind it. */
    private static int runningBehind(Life l, String ahead) {
        int over = ahead.lastIndexOf('O');
        return over < 0 ? l.running() + misses(ahead) : misses(ahead.substring(over));
    }

    private static int oddsBehind(Life l, int height, String ahead) {
        int tries = l.tries() + ahead.replace("S", "").length();
        return Math.min(9, Math.max(0, 9 + l.strength - height - tries / l.wind));
    }

    private BigDecimal clearing(Life l, String ahead) {
        if (ahead.endsWith("O")) return BigDecimal.ONE;
        if (runningBehind(l, ahead) == 3) return BigDecimal.ZERO;
        int odds = oddsBehind(l, now.bar, ahead);
        return tenths(odds).multiply(clearing(l, ahead + "O")).add(tenths(10 - odds).multiply(clearing(l, ahead + "M")));
    }

    long clears(int i, boolean upper) {
        if (unknown(i)) return UNKNOWN;
        if (now.lives.get(i).isOut()) return STATE;
        return told(clearing(now.lives.get(i), ""), upper);
    }

    /** The heights that lie behind are the Os and Ss so far. */
    private static int heightsBehind(String ahead) {
        return ahead.replace("M", "").length();
    }

    private BigDecimal trying(Life l, int n, String ahead) {
        int odds = oddsBehind(l, now.bar + heightsBehind(ahead), ahead);
        return tenths(odds).multiply(gained(l, n, ahead + "O")).add(tenths(10 - odds).multiply(gained(l, n, ahead + "M")));
    }

    private BigDecimal gained(Life l, int n, String ahead) {
        if (heightsBehind(ahead) == n || runningBehind(l, ahead) == 3) {
            return BigDecimal.valueOf(heightsBehind(ahead.substring(0, ahead.lastIndexOf('O') + 1)));
        }
        return trying(l, n, ahead).max(gained(l, n, ahead + "S"));
    }

    long mean(int i, int n, boolean upper) {
        int refusal = refusedAhead(i, n);
        return refusal != 0 ? refusal : told(gained(now.lives.get(i), n, ""), upper);
    }

    int wise(int i, int n) {
        int refusal = refusedAhead(i, n);
        if (refusal != 0) return refusal;
        Life l = now.lives.get(i);
        return trying(l, n, "").compareTo(gained(l, n, "S")) >= 0 ? 1 : 0;
    }

    private BigDecimal unbeaten(int i, int n, String ahead) {
        Life l = now.lives.get(i);
        if (heightsBehind(ahead) == n || runningBehind(l, ahead) == 3) {
            long mine = worthBehind(l, ahead);
            for (int j = 0; j < now.lives.size(); j++) {
                if (j != i && worth(now.lives.get(j)) > mine) return BigDecimal.ZERO;
            }
            return BigDecimal.ONE;
        }
        int odds = oddsBehind(l, now.bar + heightsBehind(ahead), ahead);
        return tenths(odds).multiply(unbeaten(i, n, ahead + "O")).add(tenths(10 - odds).multiply(unbeaten(i, n, ahead + "M")));
    }

    private long worthBehind(Life l, String ahead) {
        int inAll = misses(l.all()) + misses(ahead);
        if (ahead.indexOf('O') < 0) return worth(l.best(), l.there(), inAll);
        String[] words = ahead.substring(0, ahead.lastIndexOf('O')).split("O", -1);
        int there = misses(words[words.length - 1]) + (words.length == 1 ? misses(l.word()) : 0);
        return worth(now.bar + words.length - 1, there, inAll);
    }

    long first(int i, int n, boolean upper) {
        int refusal = refusedAhead(i, n);
        return refusal != 0 ? refusal : told(unbeaten(i, n, ""), upper);
    }

    long alone(int i, int j, boolean upper) {
        if (unknown(i) || unknown(j)) return UNKNOWN;
        if (i == j) return OUTSIDE;
        if (now.lives.get(i).isOut() || now.lives.get(j).isOut()) return STATE;
        BigDecimal one = clearing(now.lives.get(i), "");
        BigDecimal two = clearing(now.lives.get(j), "");
        BigDecimal both = one.multiply(two);
        return told(one.add(two).subtract(both).subtract(both), upper);
    }

    private static void gather(int left, String sheet, Map<String, Integer> into) {
        Life l = new Life(0, 1, 0, List.of(""));
        int running = runningBehind(l, sheet);
        if (left == 0 || running == 3) {
            int k = heightsBehind(sheet.substring(0, sheet.lastIndexOf('O') + 1));
            into.merge(k + " " + misses(sheet), 1, Integer::sum);
            return;
        }
        for (int more = 0; running + more < 3; more++) {
            gather(left - 1, sheet + "M".repeat(more) + "O", into);
            gather(left - 1, sheet + "M".repeat(more) + "S", into);
        }
        gather(left - 1, sheet + "M".repeat(3 - running), into);
    }

    int sheets(int n, int k, int m) {
        if (n < 1 || n > 6 || k < 0 || k > n || m < 0 || m > 18) return OUTSIDE;
        if (!ALL_SHEETS.containsKey(n)) {
            Map<String, Integer> all = new HashMap<>();
            gather(n, "", all);
            ALL_SHEETS.put(n, all);
        }
        return ALL_SHEETS.get(n).getOrDefault(k + " " + m, 0);
    }

    long seed(long v) {
        long was = seed.longValue();
        seed = BigInteger.valueOf(v).mod(BigInteger.ONE.shiftLeft(64));
        return was;
    }

    private static int leaders(Position p) {
        int bits = 0;
        for (int i = 0; i < p.lives.size(); i++) if (rank(p, i) == 0) bits += 1 << i;
        return bits;
    }

    int fair() {
        Position p = now;
        while (p.on != NONE) {
            seed = seed.multiply(new BigInteger("6364136223846793005")).add(new BigInteger("1442695040888963407"));
            seed = seed.mod(BigInteger.ONE.shiftLeft(64));
            int drawn = seed.shiftRight(33).mod(BigInteger.TEN).intValue();
            p = behind(p, drawn < p.lives.get(p.on).odds(p.bar) ? 'O' : 'M');
        }
        return leaders(p);
    }

    int keep(int slot) {
        if (slot != 0 && slot != 1) return UNKNOWN;
        slots[slot] = now;
        return now.bar;
    }

    int again(int slot) {
        if (slot != 0 && slot != 1) return UNKNOWN;
        if (slots[slot] == null) return STATE;
        now = slots[slot];
        row.clear();
        return now.bar;
    }

    private int bits(java.util.function.Predicate<Life> is) {
        int bits = 0;
        for (int i = 0; i < now.lives.size(); i++) if (is.test(now.lives.get(i))) bits += 1 << i;
        return bits;
    }

    int count(int what) {
        switch (what) {
            case 0: return text.length();
            case 1: return now.lives.size();
            case 2: return now.bar;
            case 3: return bits(l -> !l.isOut());
            case 4: return bits(l -> l.how() == 1);
            case 5: return bits(l -> l.how() == 2);
            case 6: return row.size();
            case 7: return now.on == NONE ? 1 : 0;
            case 8: return leaders(now);
            default: return OUTSIDE;
        }
    }
}
