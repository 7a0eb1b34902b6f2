import java.util.Arrays;

/**
 * A bench for texts that chance writes. The words in capitals are those of the document's terms.
 *
 * <p>All rows are made by the constructor and used again, so that no call makes an object.
 */
public final class LettersByLot {
    public static final int NONE = -1;

    private static final int FEWEST_LETTERS = 2;
    private static final int MOST_LETTERS = 4;
    private static final int MOST_WEIGHT = 4;
    private static final int SLOTS = 8;
    private static final int ALL_SLOTS = (1 << SLOTS) - 1;
    private static final int LONGEST_WORD = 5;
    private static final int SHORTEST_ANSWERED = 3;
    private static final int LARGEST_LIST = 3;
    private static final int LONGEST_COUNTED = 30;
    private static final int LONGEST_TEXT = 300;
    private static final long NO_COUNT = -1;

    /** Each of 1 .. 4, all that weights can sum up to, divides it. */
    private static final int COMMON_MULTIPLE = 12;

    /** Euclid's way needs at most 92 steps on longs. */
    private static final int MOST_STEPS_OF_EUCLID = 100;

    private final Lot lot;
    private final Word[] words;
    private final Word candidate;
    private final Race race;
    private final Machine machine;
    private final Text text;
    private long topAtHand;
    private long bottomAtHand;

    public LettersByLot() {
        lot = new Lot();
        words = new Word[SLOTS];
        for (int slot = 0; slot < words.length; slot++) {
            words[slot] = new Word();
        }
        candidate = new Word();
        race = new Race();
        machine = new Machine();
        text = new Text();
        topAtHand = 0;
        bottomAtHand = 1;
    }

    public int source(int q, int a, int b, int c, int d) {
        if (!lot.become(q, a, b, c, d)) {
            return NONE;
        }
        for (int slot = 0; slot < words.length; slot++) {
            words[slot].clear();
        }
        text.clear();
        return lot.total;
    }

    public boolean word(int slot, int n, int code) {
        return isSlot(slot) && words[slot].spell(n, code, lot);
    }

    public boolean drop(int slot) {
        Word word = wordIn(slot);
        if (word == null) {
            return false;
        }
        word.clear();
        return true;
    }

    public int tell(int slot, int what) {
        Word word = wordIn(slot);
        if (word == null || what < 0) {
            return NONE;
        }
        if (what == 0) {
            return word.length;
        }
        return what == 1 ? word.code : word.letterAt(what - 2);
    }

    public int laps(int a, int b) {
        Word left = wordIn(a);
        Word right = wordIn(b);
        return left == null || right == null ? NONE : left.lapsOn(right);
    }

    public boolean within(int a, int b) {
        Word inner = wordIn(a);
        Word outer = wordIn(b);
        return inner != null && outer != null && inner.liesWithin(outer);
    }

    // ---- fractions

    public boolean lead(int a, int b) {
        Word left = wordIn(a);
        Word right = wordIn(b);
        if (left == null || right == null) {
            return false;
        }
        hold(left.leadOn(right), right.leadBottom());
        return true;
    }

    public boolean wait(int slot, int what) {
        Word word = wordIn(slot);
        if (word == null || what < 0 || what > 1) {
            return false;
        }
        if (what == 0) {
            hold(word.ownLead, word.leadBottom());
        } else {
            hold(word.spreadTop(), word.leadBottom() * word.leadBottom());
        }
        return true;
    }

    public boolean first(int list, int slot) {
        if (!enterList(list)) {
            return false;
        }
        if (slot == NONE) {
            hold(race.determinant(NONE), race.sumOfShares());
            return true;
        }
        if (!isSlot(slot) || (list >> slot & 1) == 0) {
            return false;
        }
        int place = Integer.bitCount(list & ((1 << slot) - 1));
        hold(race.determinant(place), race.sumOfShares());
        return true;
    }

    public boolean odds(int a, int b) {
        Word left = wordIn(a);
        Word right = wordIn(b);
        race.clear();
        if (left == null || right == null || !race.enter(left) || !race.enter(right)) {
            return false;
        }
        hold(right.edgeOver(left), left.edgeOver(right));
        return true;
    }

    public int best(int slot) {
        Word word = wordIn(slot);
        if (word == null || !lot.isEven() || word.length < SHORTEST_ANSWERED) {
            return NONE;
        }
        int codes = (int) power(lot.letters, word.length);
        int bestCode = NONE;
        long bestPart = 0;
        long bestWhole = 1;
        for (int code = 0; code < codes; code++) {
            if (code == word.code || !candidate.spell(word.length, code, lot)) {
                continue;
            }
            long part = word.edgeOver(candidate);
            long whole = part + candidate.edgeOver(word);
            if (part * bestWhole > bestPart * whole) {
                bestCode = code;
                bestPart = part;
                bestWhole = whole;
            }
        }
        if (bestCode != NONE) {
            hold(bestPart, bestWhole);
        }
        return bestCode;
    }

    public void cover() {
        // The latest of the letters' first comings, by the first comings of any of a set of them.
        long sum = 0;
        for (int set = 1; set < 1 << lot.letters; set++) {
            int weight = lot.weightOf(set);
            if (weight > 0) {
                long mean = (long) lot.total * (COMMON_MULTIPLE / weight);
                sum += Integer.bitCount(set) % 2 == 1 ? mean : -mean;
            }
        }
        hold(sum, COMMON_MULTIPLE);
    }

    public boolean won(int slot) {
        Word word = wordIn(slot);
        if (word == null || text.firstEndOf(word) == NONE) {
            return false;
        }
        // Only who began at a LAP of the WORD on itself has a purse yet: their sum is its LEAD on itself.
        hold(word.ownLead, word.leadBottom());
        return true;
    }

    public long top() {
        return topAtHand;
    }

    public long bottom() {
        return bottomAtHand;
    }

    // ---- counts

    public long times(int slot, int n, int k, boolean times) {
        Word word = wordIn(slot);
        if (word == null || !isCounted(n)) {
            return NO_COUNT;
        }
        if (k > n || times && k < 0) {
            return 0;
        }
        if (!times && k <= 0) {
            return power(lot.total, n);
        }
        machine.clear();
        machine.learn(word);
        machine.link(lot);
        if (times) {
            return machine.weigh(lot, n, k, k);
        }
        return power(lot.total, n) - machine.weigh(lot, n, 0, k - 1);
    }

    public long never(int set, int n) {
        if (!isCounted(n)) {
            return NO_COUNT;
        }
        machine.clear();
        for (int slot = 0; slot < SLOTS; slot++) {
            Word word = wordIn(slot);
            if (word != null && (set >> slot & 1) == 1) {
                machine.learn(word);
            }
        }
        machine.link(lot);
        return machine.weigh(lot, n, 0, 0);
    }

    public long covered(int n) {
        if (!isCounted(n)) {
            return NO_COUNT;
        }
        // Texts of the letters of a set alone, added and taken away by how many letters the set lacks.
        long sum = 0;
        for (int set = 0; set < 1 << lot.letters; set++) {
            long weight = power(lot.weightOf(set), n);
            sum += (lot.letters - Integer.bitCount(set)) % 2 == 0 ? weight : -weight;
        }
        return sum;
    }

    // ---- texts

    public int draw(int seed, int n) {
        if (n < 0 || n > LONGEST_TEXT) {
            return 0;
        }
        text.clear();
        int drawn = seed;
        for (int i = 0; i < n; i++) {
            drawn = drawn * 1103515245 + 12345;
            text.append(lot.letterFor(drawn >>> 16));
        }
        return drawn;
    }

    public int add(int letter) {
        if (letter < 0 || letter >= lot.letters || !text.append(letter)) {
            return NONE;
        }
        return text.length;
    }

    public int letter(int i) {
        return text.letterAt(i);
    }

    public int came(int slot, int what) {
        Word word = wordIn(slot);
        if (word == null || what < 0 || what > 1) {
            return NONE;
        }
        return what == 0 ? text.firstEndOf(word) : text.placesOf(word);
    }

    // ---- what several calls share

    private static boolean isSlot(int slot) {
        return slot >= 0 && slot < SLOTS;
    }

    private static boolean isCounted(int n) {
        return n >= 0 && n <= LONGEST_COUNTED;
    }

    /** A SLOT's WORD; null if it has none, or there is no such SLOT. */
    private Word wordIn(int slot) {
        return isSlot(slot) && words[slot].length > 0 ? words[slot] : null;
    }

    /** Enters the WORDS of a LIST into the race, the lowest SLOT first; false if it is no LIST. */
    private boolean enterList(int list) {
        race.clear();
        if (list == 0 || (list & ~ALL_SLOTS) != 0) {
            return false;
        }
        for (int slot = 0; slot < SLOTS; slot++) {
            if ((list >> slot & 1) == 1) {
                Word word = wordIn(slot);
                if (word == null || !race.enter(word)) {
                    return false;
                }
            }
        }
        return true;
    }

    /** Puts a fraction at hand, in lowest terms and with a bottom above 0. */
    private void hold(long top, long bottom) {
        long divisor = greatestDivisor(Math.abs(top), Math.abs(bottom));
        if (divisor == 0 || bottom == 0) {
            return;
        }
        long signed = bottom < 0 ? -divisor : divisor;
        topAtHand = top / signed;
        bottomAtHand = bottom / signed;
    }

    private static long greatestDivisor(long a, long b) {
        long greater = a;
        long lesser = b;
        for (int step = 0; step < MOST_STEPS_OF_EUCLID && lesser != 0; step++) {
            long rest = greater % lesser;
            greater = lesser;
            lesser = rest;
        }
        return greater;
    }

    private static long power(long base, int exponent) {
        long product = 1;
        for (int i = 0; i < exponent; i++) {
            product *= base;
        }
        return product;
    }

    /** The SOURCE. */
    private static final class Lot {
        final int[] weights;
        int letters;
        int total;

        Lot() {
            weights = new int[MOST_LETTERS];
            weights[0] = 1;
            weights[1] = 1;
            letters = 2;
            total = 2;
        }

        /** False, and nothing changes, if there can't be such a SOURCE. */
        boolean become(int q, int a, int b, int c, int d) {
            if (q < FEWEST_LETTERS || q > MOST_LETTERS) {
                return false;
            }
            int third = q > 2 ? c : 0;
            int fourth = q > 3 ? d : 0;
            int sum = heft(a) + heft(b);
            sum += q > 2 ? heft(third) : 0;
            sum += q > 3 ? heft(fourth) : 0;
            if (sum > MOST_WEIGHT) {
                return false;
            }
            weights[0] = a;
            weights[1] = b;
            weights[2] = third;
            weights[3] = fourth;
            letters = q;
            total = sum;
            return true;
        }

        /** What can't be a weight counts as too heavy, so that no sum wraps around. */
        private static int heft(int weight) {
            return weight >= 1 && weight <= MOST_WEIGHT ? weight : MOST_WEIGHT + 1;
        }

        boolean isEven() {
            for (int i = 1; i < letters; i++) {
                if (weights[i] != weights[0]) {
                    return false;
                }
            }
            return true;
        }

        /** The weight of a set of letters, as bits. */
        int weightOf(int set) {
            int sum = 0;
            for (int i = 0; i < letters; i++) {
                sum += (set >> i & 1) == 1 ? weights[i] : 0;
            }
            return sum;
        }

        /** The letter that a number of 0 or more draws. */
        int letterFor(int number) {
            if (total <= 0) {
                return 0;
            }
            int d = number % total;
            int sum = 0;
            for (int i = 0; i < letters; i++) {
                sum += weights[i];
                if (sum > d) {
                    return i;
                }
            }
            return 0;
        }
    }

    /** What a SLOT holds: a WORD, or none if its length is 0. */
    private static final class Word {
        final int[] letters;
        /** The CODES of the first k and of the last k letters. */
        final int[] heads;
        final int[] tails;
        /** shares[k] / shares[0] is 1 / P of the first k letters: all LEADS on this WORD have one bottom. */
        final long[] shares;
        int length;
        int code;
        long ownLead;

        Word() {
            letters = new int[LONGEST_WORD];
            heads = new int[LONGEST_WORD + 1];
            tails = new int[LONGEST_WORD + 1];
            shares = new long[LONGEST_WORD + 1];
        }

        void clear() {
            length = 0;
        }

        /** Becomes the WORD of n letters with a CODE; false, and nothing changes, if there is none such. */
        boolean spell(int n, int newCode, Lot lot) {
            int q = lot.letters;
            if (q < FEWEST_LETTERS || n < 1 || n > LONGEST_WORD || newCode < 0 || newCode >= power(q, n)) {
                return false;
            }
            length = n;
            code = newCode;
            int rest = newCode;
            int place = 1;
            for (int k = 1; k <= n; k++) {
                int digit = rest % q;
                letters[n - k] = digit;
                tails[k] = tails[k - 1] + digit * place;
                rest /= q;
                place *= q;
            }
            for (int k = 1; k <= n; k++) {
                heads[k] = heads[k - 1] * q + letters[k - 1];
            }
            share(lot);
            ownLead = leadOn(this);
            return true;
        }

        private void share(Lot lot) {
            shares[0] = 1;
            for (int k = 1; k <= length; k++) {
                shares[k] = shares[k - 1] * lot.total;
            }
            long behind = 1;
            for (int k = length - 1; k >= 0; k--) {
                behind *= lot.weights[letters[k]];
                shares[k] *= behind;
            }
        }

        int letterAt(int i) {
            return i >= 0 && i < length ? letters[i] : NONE;
        }

        boolean lapsBy(int k, Word other) {
            return tails[k] == other.heads[k];
        }

        int lapsOn(Word other) {
            int bits = 0;
            int lesser = Math.min(length, other.length);
            for (int k = 1; k <= lesser; k++) {
                bits |= lapsBy(k, other) ? 1 << (k - 1) : 0;
            }
            return bits;
        }

        /** The LEAD on another WORD, times that one's leadBottom. */
        long leadOn(Word other) {
            long sum = 0;
            int lesser = Math.min(length, other.length);
            for (int k = 1; k <= lesser; k++) {
                sum += lapsBy(k, other) ? other.shares[k] : 0;
            }
            return sum;
        }

        long leadBottom() {
            return shares[0];
        }

        /** The SPREAD, times the square of leadBottom. */
        long spreadTop() {
            long sum = 0;
            for (int k = 1; k <= length; k++) {
                sum += lapsBy(k, this) ? (2 * k - 1) * shares[k] : 0;
            }
            return ownLead * ownLead - sum * leadBottom();
        }

        /** The LEAD on itself less that on another WORD, times the leadBottom of both. */
        long edgeOver(Word other) {
            return ownLead * other.leadBottom() - leadOn(other) * leadBottom();
        }

        boolean liesWithin(Word other) {
            for (int start = 0; start + length <= other.length; start++) {
                if (standsIn(other.letters, start)) {
                    return true;
                }
            }
            return false;
        }

        boolean standsIn(int[] row, int start) {
            if (start < 0 || start + length > row.length) {
                return false;
            }
            for (int i = 0; i < length; i++) {
                if (row[start + i] != letters[i]) {
                    return false;
                }
            }
            return true;
        }
    }

    /**
     * The WORDS of a LIST and the equations that say which comes FIRST.
     *
     * <p>They are solved for f(A) / N, as then each row B asks for 1: with its row times its bottom all are whole.
     * By Cramer's rule f(A) / N is the determinant with column A replaced to the plain one; that all f sum up to 1
     * tells N. Rows and columns that no WORD has are those of the unit matrix, with 0 asked.
     */
    private static final class Race {
        final Word[] runners;
        final long[] leads;
        final long[] asked;
        int size;

        Race() {
            runners = new Word[LARGEST_LIST];
            leads = new long[LARGEST_LIST * LARGEST_LIST];
            asked = new long[LARGEST_LIST];
            clear();
        }

        void clear() {
            size = 0;
            for (int i = 0; i < LARGEST_LIST; i++) {
                runners[i] = null;
                asked[i] = 0;
                for (int j = 0; j < LARGEST_LIST; j++) {
                    leads[i * LARGEST_LIST + j] = i == j ? 1 : 0;
                }
            }
        }

        /** False if there is no room, or one of the WORDS LIES WITHIN another one. */
        boolean enter(Word word) {
            if (size >= LARGEST_LIST) {
                return false;
            }
            for (int i = 0; i < size; i++) {
                Word other = runners[i];
                if (other == null || word.liesWithin(other) || other.liesWithin(word)) {
                    return false;
                }
            }
            runners[size] = word;
            asked[size] = word.leadBottom();
            size++;
            int last = size - 1;
            for (int i = 0; i < size; i++) {
                Word other = runners[i];
                if (other != null) {
                    leads[last * LARGEST_LIST + i] = other.leadOn(word);
                    leads[i * LARGEST_LIST + last] = word.leadOn(other);
                }
            }
            return true;
        }

        /** The determinant with what is asked in place of a column, or of none. */
        long determinant(int replaced) {
            return entry(0, 0, replaced) * minor(1, 2, replaced)
                    - entry(0, 1, replaced) * minor(0, 2, replaced)
                    + entry(0, 2, replaced) * minor(0, 1, replaced);
        }

        long sumOfShares() {
            long sum = 0;
            for (int column = 0; column < size; column++) {
                sum += determinant(column);
            }
            return sum;
        }

        private long minor(int left, int right, int replaced) {
            return entry(1, left, replaced) * entry(2, right, replaced)
                    - entry(1, right, replaced) * entry(2, left, replaced);
        }

        private long entry(int row, int column, int replaced) {
            return column == replaced ? asked[row] : leads[row * LARGEST_LIST + column];
        }
    }

    /** Reads texts letter by letter and knows after each one which start of a WORD stands last, and which WORD. */
    private static final class Machine {
        private static final int MOST_STATES = SLOTS * LONGEST_WORD + 1;
        /** Room for all counts of places of one WORD, which is more than one count for the states of all WORDS. */
        private static final int ROOM = (LONGEST_WORD + 1) * (LONGEST_COUNTED + 1);

        /** The state behind a state and a letter; before link 0 if there is none, as none leads back to the start. */
        final int[] next;
        /** The state of the longest other start of a WORD that stands last. */
        final int[] shorter;
        final int[] order;
        final boolean[] hit;
        long[] now;
        long[] then;
        int states;

        Machine() {
            next = new int[MOST_STATES * MOST_LETTERS];
            shorter = new int[MOST_STATES];
            order = new int[MOST_STATES];
            hit = new boolean[MOST_STATES];
            now = new long[ROOM];
            then = new long[ROOM];
            states = 1;
        }

        void clear() {
            Arrays.fill(next, 0);
            Arrays.fill(shorter, 0);
            for (int state = 0; state < MOST_STATES; state++) {
                hit[state] = false;
            }
            states = 1;
        }

        void learn(Word word) {
            int state = 0;
            for (int i = 0; i < word.length; i++) {
                int edge = state * MOST_LETTERS + word.letters[i];
                if (next[edge] == 0) {
                    if (states >= MOST_STATES) {
                        return;
                    }
                    next[edge] = states;
                    states++;
                }
                state = next[edge];
            }
            hit[state] = true;
        }

        /** Turns the tree of the learnt WORDS into a machine, the shorter starts first. */
        void link(Lot lot) {
            int found = 1;
            order[0] = 0;
            for (int i = 0; i < found && i < MOST_STATES; i++) {
                int state = order[i];
                hit[state] = hit[state] || hit[shorter[state]];
                for (int letter = 0; letter < lot.letters; letter++) {
                    int edge = state * MOST_LETTERS + letter;
                    int child = next[edge];
                    int fallen = state == 0 ? 0 : next[shorter[state] * MOST_LETTERS + letter];
                    if (child == 0) {
                        next[edge] = fallen;
                    } else if (found < MOST_STATES) {
                        shorter[child] = fallen;
                        order[found] = child;
                        found++;
                    }
                }
            }
        }

        /** How much all texts of n letters weigh in which WORDS stand at least .. most places. */
        long weigh(Lot lot, int n, int least, int most) {
            if (least < 0 || most < least || most > LONGEST_COUNTED || states * (most + 1) > ROOM) {
                return 0;
            }
            Arrays.fill(now, 0);
            now[0] = 1;
            for (int read = 0; read < n; read++) {
                readLetter(lot, Math.min(read, most), most);
            }
            long sum = 0;
            for (int i = least * states; i < (most + 1) * states; i++) {
                sum += now[i];
            }
            return sum;
        }

        private void readLetter(Lot lot, int mostNow, int most) {
            Arrays.fill(then, 0);
            for (int count = 0; count <= mostNow; count++) {
                for (int state = 0; state < states; state++) {
                    long weight = now[count * states + state];
                    if (weight != 0) {
                        spread(lot, state, count, most, weight);
                    }
                }
            }
            long[] read = now;
            now = then;
            then = read;
        }

        private void spread(Lot lot, int state, int count, int most, long weight) {
            for (int letter = 0; letter < lot.letters; letter++) {
                int behind = next[state * MOST_LETTERS + letter];
                int places = hit[behind] ? count + 1 : count;
                if (places <= most) {
                    then[places * states + behind] += weight * lot.weights[letter];
                }
            }
        }
    }

    /** The TEXT. */
    private static final class Text {
        final int[] letters;
        int length;

        Text() {
            letters = new int[LONGEST_TEXT];
            length = 0;
        }

        void clear() {
            length = 0;
        }

        /** False if it is full. */
        boolean append(int letter) {
            if (length >= LONGEST_TEXT) {
                return false;
            }
            letters[length] = letter;
            length++;
            return true;
        }

        int letterAt(int i) {
            return i >= 0 && i < length ? letters[i] : NONE;
        }

        int firstEndOf(Word word) {
            for (int start = 0; start + word.length <= length; start++) {
                if (word.standsIn(letters, start)) {
                    return start + word.length;
                }
            }
            return NONE;
        }

        int placesOf(Word word) {
            int places = 0;
            for (int start = 0; start + word.length <= length; start++) {
                places += word.standsIn(letters, start) ? 1 : 0;
            }
            return places;
        }
    }
}
