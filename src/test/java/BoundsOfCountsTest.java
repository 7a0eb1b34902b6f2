import java.util.Arrays;

/** The boundary cases of terms 3 and of promises 17 to 19: one method for each sentence that names one. */
public final class BoundsOfCountsTest {
    private static final int LEAST = Integer.MIN_VALUE;
    private static final int GREATEST = Integer.MAX_VALUE;
    private static final int[] NO_SLOTS = {
        LEAST, LEAST + 7, -256, -8, -7, -1, 8, 9, 15, 16, 31, 32, 33, 63, 64, 255, 256, 1 << 16, GREATEST};
    private static final int[] NO_LENGTHS = {LEAST, LEAST + 30, -31, -30, -2, -1, 31, 32, 60, 62, 63, 64, 300, GREATEST};
    private static final int[][] SOURCES = {
        {2, 1, 1, 0, 0}, {2, 1, 2, 0, 0}, {2, 2, 1, 0, 0}, {2, 1, 3, 0, 0}, {2, 3, 1, 0, 0}, {2, 2, 2, 0, 0},
        {3, 1, 1, 1, 0}, {3, 2, 1, 1, 0}, {3, 1, 2, 1, 0}, {3, 1, 1, 2, 0}, {4, 1, 1, 1, 1}};

    public static void main(String[] args) {
        allWeighThePower();
        timesOfOtherLengths();
        timesOfNoWord();
        timesOfKBelowNought();
        timesTheFirstRefusalCounts();
        timesOfKBeyondWhatFits();
        timesOfTextsAboutAsLongAsTheWord();
        timesAtPlacesThatLap();
        timesOfAllKTogether();
        comeIsWhatNeverIsNot();
        neverOfOtherLengths();
        neverOfAnyWordsAndOfNone();
        neverOfSlotsWithoutAWord();
        neverOfOtherBits();
        neverOfTheFullBench();
        neverOfEachLetter();
        neverOfWordsWithinOthers();
        coveredOfOtherLengths();
        coveredFromTheFewestLettersOn();
        coveredOfTheLongest();
        countsLeaveTheFraction();
        Check.end();
    }

    private static LettersByLot of(int... s) {
        LettersByLot lots = new LettersByLot();
        lots.source(s[0], s[1], s[2], s[3], s[4]);
        return lots;
    }

    private static int total(int... s) {
        int sum = 0;
        for (int i = 0; i < s[0]; i++) {
            sum += s[i + 1];
        }
        return sum;
    }

    private static long power(long base, int exponent) {
        long product = 1;
        for (int i = 0; i < exponent; i++) {
            product = Math.multiplyExact(product, base);
        }
        return product;
    }

    /** "n 0 .. 30 .. all weigh W to the power of n together" */
    private static void allWeighThePower() {
        for (int[] s : SOURCES) {
            LettersByLot lots = of(s);
            lots.word(0, 5, 0);
            for (int n = 0; n <= 30; n++) {
                long due = power(total(s), n);
                String told = "17, 18: " + n + " letters of " + Arrays.toString(s);
                Check.due(told, lots.never(0, n), due);
                Check.due(told, lots.times(0, n, 0, false), due);
                Check.due(told, lots.times(0, n, -1, false), due);
            }
        }
    }

    /** "-1: .. n is not 0 .. 30" */
    private static void timesOfOtherLengths() {
        LettersByLot lots = new LettersByLot();
        lots.word(0, 1, 0);
        for (int n : NO_LENGTHS) {
            for (boolean just : new boolean[] {true, false}) {
                for (int k : new int[] {0, 1, 31, GREATEST}) {
                    Check.due("17: n " + n + ", k " + k, lots.times(0, n, k, just), -1);
                }
            }
        }
        Check.due("17: n 0", lots.times(0, 0, 0, true), 1);
        Check.due("17: n 1", lots.times(0, 1, 0, true), 1);
        Check.due("17: n 30", lots.times(0, 30, 30, true), 1);
        Check.due("17: n 30, no place", lots.times(0, 30, 0, true), 1);
    }

    /** "-1: there is no WORD" */
    private static void timesOfNoWord() {
        LettersByLot lots = new LettersByLot();
        lots.word(3, 1, 0);
        for (boolean just : new boolean[] {true, false}) {
            for (int slot : NO_SLOTS) {
                Check.due("17: slot " + slot, lots.times(slot, 5, 1, just), -1);
            }
            for (int slot = 0; slot < 8; slot++) {
                Check.due("17: slot " + slot, lots.times(slot, 1, 1, just), slot == 3 ? 1 : -1);
            }
        }
        lots.drop(3);
        Check.due("17: none any more", lots.times(3, 1, 1, true), -1);
    }

    /** "0 for k below 0 (times true)"; "of times false, at k places or more" */
    private static void timesOfKBelowNought() {
        LettersByLot lots = of(2, 1, 2, 0, 0);
        lots.word(0, 2, 0b01);
        for (int k : new int[] {-1, -2, -30, -31, -256, LEAST + 1, LEAST}) {
            for (int n : new int[] {0, 1, 2, 29, 30}) {
                Check.due("17: just k " + k + ", n " + n, lots.times(0, n, k, true), 0);
                Check.due("17: k " + k + " or more, n " + n, lots.times(0, n, k, false), power(3, n));
            }
        }
    }

    /** "Of several refusals the first told counts": -1 ahead of the 0 for k below 0. */
    private static void timesTheFirstRefusalCounts() {
        LettersByLot lots = new LettersByLot();
        lots.word(0, 1, 0);
        for (int k : new int[] {-1, LEAST}) {
            for (boolean just : new boolean[] {true, false}) {
                Check.due("17: no word", lots.times(1, 5, k, just), -1);
                Check.due("17: no slot", lots.times(8, 5, k, just), -1);
                Check.due("17: n 31", lots.times(0, 31, k, just), -1);
                Check.due("17: n -1", lots.times(0, -1, k, just), -1);
                Check.due("17: neither", lots.times(-1, 31, k, just), -1);
            }
        }
    }

    /** "at just k places", k above what the text has room for */
    private static void timesOfKBeyondWhatFits() {
        for (int length = 1; length <= 5; length++) {
            LettersByLot lots = new LettersByLot();
            lots.word(0, length, 0);
            for (int n : new int[] {5, 30}) {
                int most = n - length + 1;
                Check.due("17: all places", lots.times(0, n, most, true), 1);
                Check.due("17: all places or more", lots.times(0, n, most, false), 1);
                for (int k = most + 1; k <= n + 2; k++) {
                    noneHasSoMany(lots, n, k);
                }
                for (int k : new int[] {32, 33, 64, 256, GREATEST - 1, GREATEST}) {
                    noneHasSoMany(lots, n, k);
                }
            }
        }
    }

    private static void noneHasSoMany(LettersByLot lots, int n, int k) {
        Check.due("17: just k " + k + ", n " + n, lots.times(0, n, k, true), 0);
        Check.due("17: k " + k + " or more, n " + n, lots.times(0, n, k, false), 0);
    }

    /** Texts of one letter less than the WORD, of as many and of one more. */
    private static void timesOfTextsAboutAsLongAsTheWord() {
        LettersByLot lots = of(3, 1, 2, 1, 0);
        int[] letters = {1, 0, 2, 2, 1};
        int[] weights = {1, 2, 1};
        int code = 0;
        long weight = 1;
        for (int length = 1; length <= 5; length++) {
            code = code * 3 + letters[length - 1];
            weight *= weights[letters[length - 1]];
            lots.word(0, length, code);
            String told = "17: " + length + " letters, ";
            Check.due(told + "one less", lots.times(0, length - 1, 0, true), power(4, length - 1));
            Check.due(told + "one less, one place", lots.times(0, length - 1, 1, true), 0);
            Check.due(told + "one less, come", lots.times(0, length - 1, 1, false), 0);
            Check.due(told + "as many", lots.times(0, length, 1, true), weight);
            Check.due(told + "as many, come", lots.times(0, length, 1, false), weight);
            Check.due(told + "as many, no place", lots.times(0, length, 0, true), power(4, length) - weight);
            Check.due(told + "as many, two places", lots.times(0, length, 2, true), 0);
            if (length > 1) {
                Check.due(told + "one more", lots.times(0, length + 1, 1, true), 2 * 4 * weight);
            }
        }
    }

    /** "places (that may lap)" */
    private static void timesAtPlacesThatLap() {
        LettersByLot lots = new LettersByLot();
        lots.word(0, 3, 0b000);
        Check.due("17: 000 in 00000", lots.times(0, 5, 3, true), 1);
        Check.due("17: 000 at two places of five letters", lots.times(0, 5, 2, true), 2);
        lots.word(0, 3, 0b010);
        Check.due("17: 010 in 01010", lots.times(0, 5, 2, true), 1);
        lots.word(0, 5, 0b01010);
        Check.due("17: 01010 in 0101010", lots.times(0, 7, 2, true), 1);
        Check.due("17: 01010 at 13 places of 29 letters", lots.times(0, 29, 13, true), 1);
        // Any letter ahead of that text, or behind it.
        Check.due("17: 01010 at 13 places of 30 letters", lots.times(0, 30, 13, true), 4);
        Check.due("17: 01010 at 14 places of 30 letters", lots.times(0, 30, 14, true), 0);
    }

    /** "at just k places .., or .. at k places or more": these are the sums of those. */
    private static void timesOfAllKTogether() {
        for (int[] s : SOURCES) {
            for (int n : new int[] {0, 1, 5, 30}) {
                LettersByLot lots = of(s);
                lots.word(0, 2, 1);
                long sum = 0;
                for (int k = n + 1; k >= -1; k--) {
                    sum += lots.times(0, n, k, true);
                    Check.due("17: " + k + " or more of " + n + ", " + Arrays.toString(s), lots.times(0, n, k, false), sum);
                }
                Check.due("17: all together", sum, power(total(s), n));
            }
        }
    }

    /** "COME: those in which a WORD stands .. NEVER: those in which no WORD .. stands" */
    private static void comeIsWhatNeverIsNot() {
        for (int[] s : SOURCES) {
            LettersByLot lots = of(s);
            lots.word(0, 1, s[0] - 1);
            lots.word(1, 5, 5);
            for (int slot = 0; slot < 2; slot++) {
                for (int n = 0; n <= 30; n++) {
                    long never = lots.never(1 << slot, n);
                    Check.due("17: come, n " + n, lots.times(slot, n, 1, false), power(total(s), n) - never);
                    Check.due("17: no place, n " + n, lots.times(slot, n, 0, true), never);
                }
            }
            Check.due("18: 30 letters without the last one", lots.never(1, 30), power(total(s) - s[s[0]], 30));
        }
    }

    /** "-1: n is not 0 .. 30." */
    private static void neverOfOtherLengths() {
        LettersByLot lots = new LettersByLot();
        lots.word(0, 1, 0);
        for (int n : NO_LENGTHS) {
            for (int set : new int[] {0, 1, 2, 255, 256, -1}) {
                Check.due("18: n " + n + ", set " + set, lots.never(set, n), -1);
            }
        }
        for (int n : new int[] {0, 1, 29, 30}) {
            Check.due("18: n " + n, lots.never(1, n), 1);
            Check.due("18: n " + n + ", no slots", lots.never(0, n), 1L << n);
        }
    }

    /** "(any WORDS, none at all too ..)" */
    private static void neverOfAnyWordsAndOfNone() {
        LettersByLot lots = new LettersByLot();
        for (int set : new int[] {0, 1, 128, 255}) {
            Check.due("18: no words, set " + set, lots.never(set, 10), 1024);
        }
        for (int slot = 0; slot < 8; slot++) {
            lots.word(slot, 3, slot);
        }
        for (int set = 0; set < 256; set++) {
            Check.due("18: three letters, set " + set, lots.never(set, 3), 8 - Integer.bitCount(set));
        }
    }

    /** "SLOTS without a WORD count for nothing" */
    private static void neverOfSlotsWithoutAWord() {
        for (int slot = 0; slot < 8; slot++) {
            LettersByLot lots = new LettersByLot();
            lots.word(slot, 2, 0b11);
            Check.due("18: it alone", lots.never(1 << slot, 5), 13);
            Check.due("18: all slots", lots.never(255, 5), 13);
            Check.due("18: all but it", lots.never(255 & ~(1 << slot), 5), 32);
            lots.drop(slot);
            Check.due("18: dropped", lots.never(255, 5), 32);
        }
    }

    /** "a set of SLOTS (bits)": there are no SLOTS 8 .. 31, so that they have no WORD either. */
    private static void neverOfOtherBits() {
        LettersByLot lots = new LettersByLot();
        for (int slot = 0; slot < 8; slot++) {
            lots.word(slot, 2, 0b11);
        }
        for (int bit = 8; bit < 32; bit++) {
            Check.due("18: bit " + bit, lots.never(1 << bit, 5), 32);
            Check.due("18: bit " + bit + " and 0", lots.never(1 << bit | 1, 5), 13);
        }
        Check.due("18: all other bits", lots.never(~255, 5), 32);
        Check.due("18: all bits", lots.never(-1, 5), 13);
        Check.due("18: the greatest int", lots.never(GREATEST, 5), 13);
        Check.due("18: the least int", lots.never(LEAST, 5), 32);
    }

    /** All 8 SLOTS with WORDS of 5 letters that differ in their first two, so that none of their starts are the same. */
    private static void neverOfTheFullBench() {
        LettersByLot lots = of(4, 1, 1, 1, 1);
        int[] codes = {0, 256, 512, 768, 64, 320, 576, 832};
        for (int slot = 0; slot < 8; slot++) {
            lots.word(slot, 5, codes[slot]);
        }
        Check.due("18: four letters", lots.never(255, 4), 256);
        Check.due("18: five letters", lots.never(255, 5), 1024 - 8);
        // At each of the two places 8 WORDS with 4 letters each, less the texts that have two of them.
        int both = 0;
        for (int first : codes) {
            for (int second : codes) {
                both += first % 256 == second / 4 ? 1 : 0;
            }
        }
        Check.due("18: six letters", lots.never(255, 6), 4096 - 2 * 8 * 4 + both);
        Check.due("18: 30 letters are fewer than of seven words", lots.never(255, 30) < lots.never(127, 30), true);
        Check.due("18: 30 letters", lots.never(255, 30) > 0, true);
        for (int slot = 0; slot < 8; slot++) {
            lots.word(slot, 5, 1023);
        }
        Check.due("18: eight times the same", lots.never(255, 30), lots.never(1, 30));
        Check.due("18: five letters, eight times the same", lots.never(255, 5), 1023);
    }

    /** Each letter is a WORD: only the empty text has none of them. */
    private static void neverOfEachLetter() {
        for (int[] s : SOURCES) {
            LettersByLot lots = of(s);
            for (int i = 0; i < s[0]; i++) {
                lots.word(i + 4, 1, i);
            }
            Check.due("18: the empty text", lots.never(255, 0), 1);
            Check.due("18: one letter", lots.never(255, 1), 0);
            Check.due("18: 30 letters", lots.never(255, 30), 0);
        }
    }

    /** "any WORDS": those too that lie within others, which then count for nothing more. */
    private static void neverOfWordsWithinOthers() {
        int[][] longer = {{5, 0b01100}, {5, 0b00110}, {5, 0b11000}, {3, 0b110}, {3, 0b011}, {2, 0b11}};
        for (int[] word : longer) {
            LettersByLot lots = new LettersByLot();
            lots.word(0, word[0], word[1]);
            lots.word(1, 2, 0b11);
            int last = 1;
            int before = 1;
            for (int n = 0; n <= 30; n++) {
                Check.due("18: 11 and what has it, n " + n, lots.never(3, n), last);
                int next = last + before;
                before = last;
                last = next;
            }
        }
    }

    /** "-1: n is not 0 .. 30." */
    private static void coveredOfOtherLengths() {
        LettersByLot lots = new LettersByLot();
        for (int n : NO_LENGTHS) {
            Check.due("19: n " + n, lots.covered(n), -1);
        }
        Check.due("19: n 0", lots.covered(0), 0);
        Check.due("19: n 30", lots.covered(30), (1L << 30) - 2);
    }

    /** "in which each letter stands": none shorter than q, of q letters all their orders. */
    private static void coveredFromTheFewestLettersOn() {
        int[] orders = {1, 1, 2, 6, 24};
        for (int[] s : SOURCES) {
            LettersByLot lots = of(s);
            long product = 1;
            for (int i = 0; i < s[0]; i++) {
                Check.due("19: " + i + " letters of " + Arrays.toString(s), lots.covered(i), 0);
                product *= s[i + 1];
            }
            Check.due("19: q letters of " + Arrays.toString(s), lots.covered(s[0]), orders[s[0]] * product);
        }
    }

    /** n 30 on each source: all but the texts that lack a letter. */
    private static void coveredOfTheLongest() {
        for (int[] s : SOURCES) {
            LettersByLot lots = of(s);
            int all = total(s);
            long due = 0;
            for (int set = 0; set < 1 << s[0]; set++) {
                int weight = 0;
                for (int i = 0; i < s[0]; i++) {
                    weight += (set >> i & 1) * s[i + 1];
                }
                boolean added = (s[0] - Integer.bitCount(set)) % 2 == 0;
                due = added ? Math.addExact(due, power(weight, 30)) : Math.subtractExact(due, power(weight, 30));
            }
            Check.due("19: 30 letters of " + Arrays.toString(s), lots.covered(30), due);
            Check.due("19: fewer than all", lots.covered(30) < power(all, 30), true);
        }
    }

    /** Counts are answers: what was at hand stays, whether they are refused or not. */
    private static void countsLeaveTheFraction() {
        LettersByLot lots = of(2, 1, 3, 0, 0);
        lots.word(0, 2, 0b10);
        lots.cover();
        for (int n : new int[] {-1, 0, 30, 31}) {
            lots.times(0, n, 0, true);
            lots.times(7, n, 0, false);
            lots.never(1, n);
            lots.covered(n);
            Check.hand("15, 16: counts of n " + n, lots, 13, 3);
            Check.due("5: the word stays", lots.tell(0, 1), 2);
            Check.due("22: the text stays empty", lots.letter(0), -1);
        }
    }
}
