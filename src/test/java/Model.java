import java.math.BigInteger;
import java.util.ArrayList;
import java.util.HashMap;
import java.util.List;
import java.util.Map;
import java.util.TreeMap;

/**
 * A slow second writing of the document over texts and exact fractions. Means, spreads and chances come from the steps
 * of the chain of letters, not from the document's formulas, so that the two ways check each other.
 */
final class Model {
    static final int NONE = -1;

    private int[] weights = {1, 1};
    private final String[] words = new String[8];
    private String text = "";
    private Ratio hand = Ratio.of(0, 1);
    /** BEST is dear here: kept by source and word, for all models. */
    private static final Map<String, Best> ANSWERS = new HashMap<>();

    private record Best(int code, Ratio chance) {
    }

    record Ratio(BigInteger top, BigInteger bottom) {
        static Ratio of(long top, long bottom) {
            return of(BigInteger.valueOf(top), BigInteger.valueOf(bottom));
        }

        static Ratio of(BigInteger top, BigInteger bottom) {
            BigInteger divisor = top.gcd(bottom);
            if (bottom.signum() < 0) {
                divisor = divisor.negate();
            }
            return new Ratio(top.divide(divisor), bottom.divide(divisor));
        }

        Ratio plus(Ratio other) {
            return of(top.multiply(other.bottom).add(other.top.multiply(bottom)), bottom.multiply(other.bottom));
        }

        Ratio minus(Ratio other) {
            return plus(new Ratio(other.top.negate(), other.bottom));
        }

        Ratio times(Ratio other) {
            return of(top.multiply(other.top), bottom.multiply(other.bottom));
        }

        Ratio over(Ratio other) {
            return of(top.multiply(other.bottom), bottom.multiply(other.top));
        }

        boolean isNought() {
            return top.signum() == 0;
        }
    }

    // ---- source and words

    int source(int q, int a, int b, int c, int d) {
        if (q < 2 || q > 4) {
            return NONE;
        }
        int[] all = {a, b, c, d};
        long sum = 0;
        for (int i = 0; i < q; i++) {
            if (all[i] < 1) {
                return NONE;
            }
            sum += all[i];
        }
        if (sum > 4) {
            return NONE;
        }
        weights = java.util.Arrays.copyOf(all, q);
        java.util.Arrays.fill(words, null);
        text = "";
        return (int) sum;
    }

    boolean word(int slot, int n, int code) {
        if (slot < 0 || slot > 7 || n < 1 || n > 5 || code < 0 || code >= Math.pow(weights.length, n)) {
            return false;
        }
        words[slot] = spelt(n, code);
        return true;
    }

    private String spelt(int n, int code) {
        StringBuilder digits = new StringBuilder(Integer.toString(code, weights.length));
        while (digits.length() < n) {
            digits.insert(0, '0');
        }
        return digits.toString();
    }

    boolean drop(int slot) {
        boolean had = in(slot) != null;
        if (had) {
            words[slot] = null;
        }
        return had;
    }

    int tell(int slot, int what) {
        String word = in(slot);
        if (word == null || what < 0 || what >= word.length() + 2) {
            return NONE;
        }
        return what == 0 ? word.length()
                : what == 1 ? Integer.parseInt(word, weights.length)
                : word.charAt(what - 2) - '0';
    }

    private String in(int slot) {
        return slot < 0 || slot > 7 ? null : words[slot];
    }

    int laps(int a, int b) {
        String left = in(a);
        String right = in(b);
        if (left == null || right == null) {
            return NONE;
        }
        int bits = 0;
        for (int k = 1; k <= Math.min(left.length(), right.length()); k++) {
            if (left.endsWith(right.substring(0, k))) {
                bits += 1 << (k - 1);
            }
        }
        return bits;
    }

    boolean within(int a, int b) {
        return in(a) != null && in(b) != null && in(b).contains(in(a));
    }

    // ---- fractions

    private int total() {
        int sum = 0;
        for (int weight : weights) {
            sum += weight;
        }
        return sum;
    }

    private Ratio chance(char letter) {
        return Ratio.of(weights[letter - '0'], total());
    }

    private Ratio chance(String row) {
        Ratio product = Ratio.of(1, 1);
        for (char letter : row.toCharArray()) {
            product = product.times(chance(letter));
        }
        return product;
    }

    boolean lead(int a, int b) {
        int bits = laps(a, b);
        if (bits == NONE) {
            return false;
        }
        hand = Ratio.of(0, 1);
        for (int k = 1; k <= 5; k++) {
            if ((bits >> (k - 1) & 1) == 1) {
                hand = hand.plus(Ratio.of(1, 1).over(chance(in(b).substring(0, k))));
            }
        }
        return true;
    }

    boolean wait(int slot, int what) {
        if (in(slot) == null || what != 0 && what != 1) {
            return false;
        }
        Chain chain = new Chain(List.of(in(slot)));
        Ratio mean = chain.mean();
        hand = what == 0 ? mean : chain.meanSquare().minus(mean.times(mean));
        return true;
    }

    private List<String> listed(int list) {
        List<String> found = new ArrayList<>();
        for (int slot = 0; slot < 32; slot++) {
            if ((list >>> slot & 1) == 1) {
                if (in(slot) == null) {
                    return null;
                }
                found.add(in(slot));
            }
        }
        for (int i = 0; i < found.size(); i++) {
            for (int j = 0; j < found.size(); j++) {
                if (i != j && found.get(i).contains(found.get(j))) {
                    return null;
                }
            }
        }
        return found.size() < 1 || found.size() > 3 ? null : found;
    }

    boolean first(int list, int slot) {
        List<String> found = listed(list);
        if (found == null) {
            return false;
        }
        if (slot == NONE) {
            hand = new Chain(found).mean();
            return true;
        }
        if (slot < 0 || slot > 7 || !found.contains(in(slot)) || (list & 1 << slot) == 0) {
            return false;
        }
        hand = new Chain(found).chanceOf(in(slot));
        return true;
    }

    boolean odds(int a, int b) {
        if (in(a) == null || in(b) == null || a == b || listed(1 << a | 1 << b) == null) {
            return false;
        }
        Chain chain = new Chain(List.of(in(a), in(b)));
        hand = chain.chanceOf(in(a)).over(chain.chanceOf(in(b)));
        return true;
    }

    int best(int slot) {
        String word = in(slot);
        if (word == null || word.length() < 3) {
            return NONE;
        }
        for (int weight : weights) {
            if (weight != weights[0]) {
                return NONE;
            }
        }
        Best found = ANSWERS.computeIfAbsent(weights.length + " " + word, key -> bestTo(word));
        hand = found.chance;
        return found.code;
    }

    private Best bestTo(String word) {
        Best found = new Best(NONE, Ratio.of(0, 1));
        for (int code = 0; code < Math.pow(weights.length, word.length()); code++) {
            String other = spelt(word.length(), code);
            if (!other.equals(word)) {
                Ratio chance = new Chain(List.of(word, other)).chanceOf(other);
                if (chance.minus(found.chance).top.signum() > 0) {
                    found = new Best(code, chance);
                }
            }
        }
        return found;
    }

    void cover() {
        // From the full set of letters downwards: the mean number that is still wanted.
        int full = (1 << weights.length) - 1;
        Ratio[] wanted = new Ratio[full + 1];
        wanted[full] = Ratio.of(0, 1);
        for (int set = full - 1; set >= 0; set--) {
            Ratio sum = Ratio.of(1, 1);
            Ratio leave = Ratio.of(0, 1);
            for (int i = 0; i < weights.length; i++) {
                if ((set >> i & 1) == 0) {
                    Ratio chance = Ratio.of(weights[i], total());
                    sum = sum.plus(chance.times(wanted[set | 1 << i]));
                    leave = leave.plus(chance);
                }
            }
            wanted[set] = sum.over(leave);
        }
        hand = wanted[0];
    }

    boolean won(int slot) {
        String word = in(slot);
        int came = came(slot, 0);
        if (came == NONE) {
            return false;
        }
        hand = Ratio.of(0, 1);
        for (int begun = 0; begun < came; begun++) {
            Ratio purse = Ratio.of(1, 1);
            for (int i = begun; i < came && i - begun < word.length(); i++) {
                boolean right = text.charAt(i) == word.charAt(i - begun);
                purse = right ? purse.over(chance(text.charAt(i))) : Ratio.of(0, 1);
            }
            hand = hand.plus(purse);
        }
        return true;
    }

    long top() {
        return hand.top.longValueExact();
    }

    long bottom() {
        return hand.bottom.longValueExact();
    }

    // ---- counts

    /** The weights of all texts of n letters by how many places WORDS of a list have there (up to a most). */
    private TreeMap<Integer, BigInteger> weighed(List<String> list, int n, int most) {
        Map<String, BigInteger> now = new HashMap<>();
        now.put("0:", BigInteger.ONE);
        for (int i = 0; i < n; i++) {
            Map<String, BigInteger> then = new HashMap<>();
            for (Map.Entry<String, BigInteger> entry : now.entrySet()) {
                int colon = entry.getKey().indexOf(':');
                for (int letter = 0; letter < weights.length; letter++) {
                    String last = entry.getKey().substring(colon + 1) + letter;
                    int places = Integer.parseInt(entry.getKey().substring(0, colon));
                    for (String word : list) {
                        places += last.endsWith(word) ? 1 : 0;
                    }
                    String kept = last.length() > 4 ? last.substring(1) : last;
                    then.merge(Math.min(places, most) + ":" + kept,
                            entry.getValue().multiply(BigInteger.valueOf(weights[letter])), BigInteger::add);
                }
            }
            now = then;
        }
        TreeMap<Integer, BigInteger> sums = new TreeMap<>();
        now.forEach((key, weight) ->
                sums.merge(Integer.parseInt(key.substring(0, key.indexOf(':'))), weight, BigInteger::add));
        return sums;
    }

    long times(int slot, int n, int k, boolean times) {
        if (in(slot) == null || n < 0 || n > 30) {
            return -1;
        }
        TreeMap<Integer, BigInteger> sums = weighed(List.of(in(slot)), n, 31);
        BigInteger sum = BigInteger.ZERO;
        for (Map.Entry<Integer, BigInteger> entry : sums.entrySet()) {
            if (times ? entry.getKey() == k : entry.getKey() >= k) {
                sum = sum.add(entry.getValue());
            }
        }
        return sum.longValueExact();
    }

    long never(int set, int n) {
        if (n < 0 || n > 30) {
            return -1;
        }
        List<String> list = new ArrayList<>();
        for (int slot = 0; slot < 8; slot++) {
            if ((set & 1 << slot) != 0 && words[slot] != null) {
                list.add(words[slot]);
            }
        }
        return weighed(list, n, 1).getOrDefault(0, BigInteger.ZERO).longValueExact();
    }

    long covered(int n) {
        if (n < 0 || n > 30) {
            return -1;
        }
        long[] now = new long[1 << weights.length];
        now[0] = 1;
        for (int i = 0; i < n; i++) {
            long[] then = new long[now.length];
            for (int set = 0; set < now.length; set++) {
                for (int letter = 0; letter < weights.length; letter++) {
                    then[set | 1 << letter] += now[set] * weights[letter];
                }
            }
            now = then;
        }
        return now[now.length - 1];
    }

    // ---- texts

    int draw(int seed, int n) {
        if (n < 0 || n > 300) {
            return 0;
        }
        BigInteger behind = BigInteger.valueOf(seed);
        StringBuilder drawn = new StringBuilder();
        for (int i = 0; i < n; i++) {
            behind = behind.multiply(BigInteger.valueOf(1103515245)).add(BigInteger.valueOf(12345))
                    .mod(BigInteger.ONE.shiftLeft(32));
            int d = behind.shiftRight(16).mod(BigInteger.valueOf(total())).intValue();
            int letter = 0;
            while (d >= weights[letter]) {
                d -= weights[letter];
                letter++;
            }
            drawn.append(letter);
        }
        text = drawn.toString();
        return behind.intValue();
    }

    int add(int letter) {
        if (letter < 0 || letter >= weights.length || text.length() == 300) {
            return NONE;
        }
        text += letter;
        return text.length();
    }

    int letter(int i) {
        return i < 0 || i >= text.length() ? NONE : text.charAt(i) - '0';
    }

    int came(int slot, int what) {
        String word = in(slot);
        if (word == null || what != 0 && what != 1) {
            return NONE;
        }
        if (what == 0) {
            int found = text.indexOf(word);
            return found < 0 ? NONE : found + word.length();
        }
        int places = 0;
        for (int found = text.indexOf(word); found >= 0; found = text.indexOf(word, found + 1)) {
            places++;
        }
        return places;
    }

    /** The chain of letters until a WORD of a list comes: its states are the starts of the WORDS. */
    private final class Chain {
        private final List<String> list;
        private final List<String> states = new ArrayList<>();

        Chain(List<String> list) {
            this.list = list;
            for (String word : list) {
                for (int k = 0; k < word.length(); k++) {
                    if (!states.contains(word.substring(0, k))) {
                        states.add(word.substring(0, k));
                    }
                }
            }
        }

        private String ended(String row) {
            for (String word : list) {
                if (row.endsWith(word)) {
                    return word;
                }
            }
            return null;
        }

        private int behind(String row) {
            String rest = row;
            while (!states.contains(rest)) {
                rest = rest.substring(1);
            }
            return states.indexOf(rest);
        }

        Ratio chanceOf(String word) {
            Ratio[] gains = new Ratio[states.size()];
            for (int i = 0; i < gains.length; i++) {
                gains[i] = Ratio.of(0, 1);
                for (int letter = 0; letter < weights.length; letter++) {
                    if (word.equals(ended(states.get(i) + letter))) {
                        gains[i] = gains[i].plus(Ratio.of(weights[letter], total()));
                    }
                }
            }
            return solved(gains)[0];
        }

        private Ratio[] means() {
            Ratio[] gains = new Ratio[states.size()];
            java.util.Arrays.fill(gains, Ratio.of(1, 1));
            return solved(gains);
        }

        Ratio mean() {
            return means()[0];
        }

        /** The square of 1 and what is wanted behind a letter: 1, twice the latter's mean, and its square. */
        Ratio meanSquare() {
            Ratio[] means = means();
            Ratio[] gains = new Ratio[means.length];
            for (int i = 0; i < gains.length; i++) {
                gains[i] = means[i].plus(means[i]).minus(Ratio.of(1, 1));
            }
            return solved(gains)[0];
        }

        /** What each state gains until the end: its own gain, and by chance that of the state behind a letter. */
        private Ratio[] solved(Ratio[] gains) {
            int size = states.size();
            Ratio[][] rows = new Ratio[size][size + 1];
            for (int i = 0; i < size; i++) {
                for (int j = 0; j < size; j++) {
                    rows[i][j] = Ratio.of(i == j ? 1 : 0, 1);
                }
                rows[i][size] = gains[i];
                for (int letter = 0; letter < weights.length; letter++) {
                    String row = states.get(i) + letter;
                    if (ended(row) == null) {
                        int j = behind(row);
                        rows[i][j] = rows[i][j].minus(Ratio.of(weights[letter], total()));
                    }
                }
            }
            for (int i = 0; i < size; i++) {
                eliminate(rows, i);
            }
            Ratio[] answers = new Ratio[size];
            for (int i = 0; i < size; i++) {
                answers[i] = rows[i][size];
            }
            return answers;
        }

        private void eliminate(Ratio[][] rows, int column) {
            int pivot = column;
            while (rows[pivot][column].isNought()) {
                pivot++;
            }
            Ratio[] row = rows[pivot];
            rows[pivot] = rows[column];
            rows[column] = row;
            Ratio lead = row[column];
            for (int j = column; j < row.length; j++) {
                row[j] = row[j].over(lead);
            }
            for (int i = 0; i < rows.length; i++) {
                Ratio factor = rows[i][column];
                if (i != column && !factor.isNought()) {
                    for (int j = column; j < row.length; j++) {
                        rows[i][j] = rows[i][j].minus(factor.times(row[j]));
                    }
                }
            }
        }
    }
}
