import java.util.Arrays;

/** The boundary cases of terms 2 and of promises 8 to 16: one method for each sentence that names one. */
public final class BoundsOfFractionsTest {
    private static final int LEAST = Integer.MIN_VALUE;
    private static final int GREATEST = Integer.MAX_VALUE;
    private static final int[] NO_SLOTS = {
        LEAST, LEAST + 7, -256, -8, -7, -2, -1, 8, 9, 15, 16, 31, 32, 33, 63, 64, 255, 256, 1 << 16, GREATEST};
    /** All sources that can be. */
    private static final int[][] SOURCES = {
        {2, 1, 1, 0, 0}, {2, 1, 2, 0, 0}, {2, 2, 1, 0, 0}, {2, 1, 3, 0, 0}, {2, 3, 1, 0, 0}, {2, 2, 2, 0, 0},
        {3, 1, 1, 1, 0}, {3, 2, 1, 1, 0}, {3, 1, 2, 1, 0}, {3, 1, 1, 2, 0}, {4, 1, 1, 1, 1}};

    public static void main(String[] args) {
        lowestTermsWithABottomAboveNought();
        leadsUpToTheLesserLength();
        leadsOfWhatHasNone();
        meanAndSpreadOfOneLetter();
        meanAndSpreadOfFiveLetters();
        waitsOfNoneAndOfAnotherWhat();
        listsOfOneToThree();
        listsOfNoneAndOfMore();
        listsEachOfWhichHasAWord();
        listsNoneOfWhichLiesWithin();
        listsOfOtherBits();
        listsInEverySlot();
        slotsThatAreNotInTheList();
        oddsOfNoList();
        oddsOfTheShortestAndTheLongest();
        bestOfLessThanThreeLetters();
        bestOnEverySource();
        bestOfAllOtherWords();
        bestOfTheLongest();
        bestWhereThereIsNone();
        coversOfEverySource();
        wonOfNoneAndOfWhatDidNotCome();
        wonAtTheBoundsOfTheText();
        wonWhenItCameFirst();
        refusedLeavesWhatWasAtHand();
        Check.end();
    }

    private static LettersByLot of(int... s) {
        LettersByLot lots = new LettersByLot();
        lots.source(s[0], s[1], s[2], s[3], s[4]);
        return lots;
    }

    private static int total(int... s) {
        int sum = 0;
        for (int i = 0; i < s[0]; i++) {
            sum += s[i + 1];
        }
        return sum;
    }

    /** "told in lowest terms, a top and a bottom above 0" */
    private static void lowestTermsWithABottomAboveNought() {
        LettersByLot lots = of(2, 2, 2, 0, 0);
        lots.word(0, 1, 0);
        lots.word(1, 1, 1);
        Check.held("8: 4 / 2", lots.lead(0, 0), lots, 2, 1);
        Check.held("8: nought", lots.lead(0, 1), lots, 0, 1);
        Check.held("10: 2 / 4", lots.first(3, 0), lots, 1, 2);
        Check.held("10: a whole", lots.first(3, -1), lots, 1, 1);
        Check.held("11: 2 to 2", lots.odds(0, 1), lots, 1, 1);
        lots = of(2, 3, 1, 0, 0);
        lots.word(0, 1, 0);
        Check.held("9: 4 / 3", lots.wait(0, 0), lots, 4, 3);
        Check.held("9: 16 / 9 less 4 / 3", lots.wait(0, 1), lots, 4, 9);
        lots.word(0, 2, 0b01);
        Check.held("8: 16 / 3", lots.lead(0, 0), lots, 16, 3);
        lots.word(1, 2, 0b10);
        Check.held("8: nought of thirds", lots.lead(0, 0) && lots.lead(1, 1) && lots.lead(0, 1), lots, 4, 1);
        lots.word(1, 2, 0b11);
        Check.held("8: nought behind thirds", lots.lead(1, 0), lots, 0, 1);
    }

    /** "over all their LAPS k" (1 up to the lesser one's length), "of the first k letters of B" */
    private static void leadsUpToTheLesserLength() {
        LettersByLot lots = new LettersByLot();
        for (int n = 1; n <= 5; n++) {
            lots.word(n, n, 0);
        }
        for (int a = 1; a <= 5; a++) {
            for (int b = 1; b <= 5; b++) {
                Check.held("8: " + a + " on " + b, lots.lead(a, b), lots, (2 << Math.min(a, b)) - 2, 1);
            }
        }
        lots = of(2, 3, 1, 0, 0);
        lots.word(0, 5, 0b00001);
        lots.word(1, 1, 1);
        lots.word(2, 2, 0b10);
        Check.held("8: the last letter alone", lots.lead(0, 1), lots, 4, 1);
        Check.held("8: the first letter of the longer one", lots.lead(0, 2), lots, 4, 1);
        Check.held("8: one of 0 on the first of 00001", lots.lead(2, 0), lots, 4, 3);
        Check.held("8: only the whole", lots.lead(0, 0), lots, 1024, 81);
    }

    /** "False: one has none." */
    private static void leadsOfWhatHasNone() {
        LettersByLot lots = of(2, 1, 2, 0, 0);
        lots.word(0, 2, 0b11);
        Check.held("8: 11", lots.lead(0, 0), lots, 15, 4);
        for (int slot : NO_SLOTS) {
            Check.due("8: a no slot " + slot, lots.lead(slot, 0), false);
            Check.due("8: b no slot " + slot, lots.lead(0, slot), false);
        }
        for (int slot = 1; slot < 8; slot++) {
            Check.due("8: a has none", lots.lead(slot, 0), false);
            Check.due("8: b has none", lots.lead(0, slot), false);
            Check.due("8: both have none", lots.lead(slot, slot), false);
        }
        Check.hand("8: refusals", lots, 15, 4);
        lots.drop(0);
        Check.due("8: none any more", lots.lead(0, 0), false);
        Check.hand("8: a drop", lots, 15, 4);
    }

    private static long divisor(long a, long b) {
        return b == 0 ? a : divisor(b, a % b);
    }

    /** WORDS of 1 letter: the wait for it is W / w, its square's mean less the square (W / w) * (W / w - 1). */
    private static void meanAndSpreadOfOneLetter() {
        for (int[] s : SOURCES) {
            int all = total(s);
            for (int i = 0; i < s[0]; i++) {
                LettersByLot lots = of(s);
                lots.word(0, 1, i);
                int w = s[i + 1];
                String told = "9: letter " + i + " of " + Arrays.toString(s);
                long one = divisor(all, w);
                Check.held(told, lots.wait(0, 0), lots, all / one, w / one);
                long top = (long) all * (all - w);
                long two = divisor(top, (long) w * w);
                Check.held(told, lots.wait(0, 1), lots, top / two, w * w / two);
            }
        }
    }

    /** WORDS of 5 letters that lap at each length: the sums of (W / w) to the power of k, and of 2 k - 1 times it. */
    private static void meanAndSpreadOfFiveLetters() {
        for (int[] s : SOURCES) {
            int all = total(s);
            int power = (int) Math.pow(s[0], 5);
            for (int i = 0; i < s[0]; i++) {
                LettersByLot lots = of(s);
                lots.word(0, 5, (power - 1) / (s[0] - 1) * i);
                int w = s[i + 1];
                long mean = 0;
                long taken = 0;
                for (int k = 1; k <= 5; k++) {
                    long share = Math.round(Math.pow(all, k) * Math.pow(w, 5 - k));
                    mean += share;
                    taken += (2 * k - 1) * share;
                }
                long bottom = Math.round(Math.pow(w, 5));
                String told = "9: five of letter " + i + " of " + Arrays.toString(s);
                long one = divisor(mean, bottom);
                Check.held(told, lots.wait(0, 0), lots, mean / one, bottom / one);
                long top = mean * mean - taken * bottom;
                long two = divisor(top, bottom * bottom);
                Check.held(told, lots.wait(0, 1), lots, top / two, bottom * bottom / two);
            }
        }
    }

    /** "False: there is none, or another what." */
    private static void waitsOfNoneAndOfAnotherWhat() {
        LettersByLot lots = of(2, 1, 2, 0, 0);
        lots.word(7, 1, 1);
        Check.held("9: 1", lots.wait(7, 0), lots, 3, 2);
        for (int what : new int[] {LEAST, LEAST + 1, -256, -2, -1, 2, 3, 4, 256, 257, GREATEST}) {
            Check.due("9: what " + what, lots.wait(7, what), false);
        }
        for (int slot : NO_SLOTS) {
            Check.due("9: mean of slot " + slot, lots.wait(slot, 0), false);
            Check.due("9: spread of slot " + slot, lots.wait(slot, 1), false);
        }
        for (int slot = 0; slot < 7; slot++) {
            Check.due("9: mean of none", lots.wait(slot, 0), false);
            Check.due("9: spread of none", lots.wait(slot, 1), false);
        }
        Check.hand("9: refusals", lots, 3, 2);
    }

    private static LettersByLot eightWords() {
        LettersByLot lots = new LettersByLot();
        for (int slot = 0; slot < 8; slot++) {
            lots.word(slot, 3, slot);
        }
        lots.cover();
        return lots;
    }

    /** "A LIST is a set of SLOTS as bits, one to three" */
    private static void listsOfOneToThree() {
        for (int list = 0; list < 256; list++) {
            LettersByLot lots = eightWords();
            int size = Integer.bitCount(list);
            boolean due = size >= 1 && size <= 3;
            Check.due("10: the mean of list " + list, lots.first(list, -1), due);
            if (!due) {
                Check.hand("10: the mean of list " + list, lots, 3, 1);
            }
            for (int slot = 0; slot < 8; slot++) {
                Check.due("10: slot " + slot + " of list " + list, lots.first(list, slot), due && (list >> slot & 1) == 1);
            }
        }
    }

    /** The same: of none and of four or more nothing is put at hand. */
    private static void listsOfNoneAndOfMore() {
        LettersByLot lots = eightWords();
        for (int list : new int[] {0, 0b1111, 0b11110000, 0b10101010, 0b11111, 0b111111, 0b1111111, 255}) {
            for (int slot = -1; slot <= 8; slot++) {
                Check.due("10: list " + list + ", slot " + slot, lots.first(list, slot), false);
            }
        }
        Check.hand("10: refusals", lots, 3, 1);
        // 101, 110 and 111: N is 2 until the first 1, 2 more, and all again if these are 00.
        Check.held("10: three are the most", lots.first(0b11100000, -1), lots, 16, 3);
    }

    /** "each of which has a WORD" */
    private static void listsEachOfWhichHasAWord() {
        for (int without = 0; without < 8; without++) {
            LettersByLot lots = eightWords();
            lots.drop(without);
            int other = (without + 3) % 8;
            int third = (without + 5) % 8;
            Check.due("10: alone", lots.first(1 << without, without), false);
            Check.due("10: the mean of it alone", lots.first(1 << without, -1), false);
            Check.due("10: one of two", lots.first(1 << without | 1 << other, other), false);
            Check.due("10: one of three", lots.first(1 << without | 1 << other | 1 << third, other), false);
            Check.due("10: the mean of three", lots.first(1 << without | 1 << other | 1 << third, -1), false);
            Check.hand("10: refusals", lots, 3, 1);
            Check.due("10: those that have one", lots.first(1 << other | 1 << third, other), true);
        }
    }

    /** "none of which LIES WITHIN that of another one" */
    private static void listsNoneOfWhichLiesWithin() {
        int[][] pairs = {{1, 0, 5, 0b11110}, {2, 0b01, 3, 0b011}, {2, 0b11, 3, 0b011}, {4, 0b0110, 5, 0b00110}, {3, 5, 3, 5}};
        int[][] places = {{0, 1, 2}, {0, 2, 1}, {1, 0, 2}, {1, 2, 0}, {2, 0, 1}, {2, 1, 0}};
        for (int[] pair : pairs) {
            for (int[] at : places) {
                LettersByLot lots = new LettersByLot();
                lots.word(at[0], pair[0], pair[1]);
                lots.word(at[1], pair[2], pair[3]);
                lots.word(at[2], 5, 0b10001);
                String told = "10: " + Arrays.toString(pair) + " at " + Arrays.toString(at);
                for (int slot = -1; slot < 3; slot++) {
                    Check.due(told, lots.first(1 << at[0] | 1 << at[1], slot), false);
                    Check.due(told + " with a third one", lots.first(7, slot), false);
                }
                Check.due(told + ", odds", lots.odds(at[0], at[1]), false);
                Check.due(told + ", odds the other way", lots.odds(at[1], at[0]), false);
                Check.hand(told, lots, 0, 1);
                Check.due(told + ", one alone", lots.first(1 << at[0], at[0]), true);
            }
        }
    }

    /** "a set of SLOTS as bits": there are no SLOTS 8 .. 31. */
    private static void listsOfOtherBits() {
        LettersByLot lots = eightWords();
        for (int bit = 8; bit < 32; bit++) {
            Check.due("10: bit " + bit, lots.first(1 << bit, -1), false);
            Check.due("10: bit " + bit + ", its slot", lots.first(1 << bit, bit), false);
            Check.due("10: bit " + bit + " and 0", lots.first(1 << bit | 1, 0), false);
            Check.due("10: bit " + bit + ", the mean", lots.first(1 << bit | 1, -1), false);
        }
        for (int list : new int[] {-1, LEAST, LEAST | 1, GREATEST, -2, -8, ~255, 256, 257}) {
            Check.due("10: list " + list, lots.first(list, -1), false);
            Check.due("10: list " + list + ", slot 0", lots.first(list, 0), false);
        }
        Check.hand("10: refusals", lots, 3, 1);
    }

    /** A LIST of three in any SLOTS: 00, 11 and 01 have the same chances wherever they stand. */
    private static void listsInEverySlot() {
        int[][] slots = {{0, 1, 2}, {2, 1, 0}, {5, 6, 7}, {7, 6, 5}, {0, 7, 3}, {7, 3, 0}, {3, 0, 7}};
        for (int[] at : slots) {
            LettersByLot lots = new LettersByLot();
            lots.word(at[0], 2, 0b00);
            lots.word(at[1], 2, 0b11);
            lots.word(at[2], 2, 0b01);
            int list = 1 << at[0] | 1 << at[1] | 1 << at[2];
            String told = "10: at " + Arrays.toString(at);
            Check.held(told, lots.first(list, at[0]), lots, 3, 8);
            Check.held(told, lots.first(list, at[1]), lots, 1, 4);
            Check.held(told, lots.first(list, at[2]), lots, 3, 8);
            Check.held(told, lots.first(list, -1), lots, 9, 4);
            Check.held(told + ", alone", lots.first(1 << at[0], at[0]), lots, 1, 1);
            Check.held(told + ", the mean alone", lots.first(1 << at[0], -1), lots, 6, 1);
        }
    }

    /** "or the SLOT is not in it" */
    private static void slotsThatAreNotInTheList() {
        LettersByLot lots = eightWords();
        int list = 1 << 0 | 1 << 7;
        for (int slot : NO_SLOTS) {
            if (slot != -1) {
                Check.due("10: slot " + slot, lots.first(list, slot), false);
            }
        }
        for (int slot = 1; slot < 7; slot++) {
            Check.due("10: slot " + slot, lots.first(list, slot), false);
        }
        Check.hand("10: refusals", lots, 3, 1);
        Check.held("10: slot 0", lots.first(list, 0), lots, 1, 2);
        Check.held("10: slot 7", lots.first(list, 7), lots, 1, 2);
        Check.held("10: NONE is the mean", lots.first(list, LettersByLot.NONE), lots, 7, 1);
    }

    /** "False: they are no LIST." */
    private static void oddsOfNoList() {
        LettersByLot lots = new LettersByLot();
        lots.word(0, 3, 0b001);
        lots.word(6, 3, 0b001);
        lots.word(7, 2, 0b01);
        lots.cover();
        for (int slot : NO_SLOTS) {
            Check.due("11: a no slot " + slot, lots.odds(slot, 0), false);
            Check.due("11: b no slot " + slot, lots.odds(0, slot), false);
            Check.due("11: both no slot " + slot, lots.odds(slot, slot), false);
        }
        for (int slot = 0; slot < 8; slot++) {
            Check.due("11: the same slot " + slot, lots.odds(slot, slot), false);
            Check.due("11: a " + slot, lots.odds(slot, 0), false);
            Check.due("11: b " + slot, lots.odds(0, slot), false);
        }
        Check.hand("11: refusals", lots, 3, 1);
        lots.word(7, 2, 0b11);
        Check.held("11: a list again", lots.odds(0, 7), lots, 1, 1);
    }

    /** ODDS of two letters are their weights; of the longest WORDS that hardly come against those that do. */
    private static void oddsOfTheShortestAndTheLongest() {
        for (int[] s : SOURCES) {
            LettersByLot lots = of(s);
            lots.word(0, 1, 0);
            lots.word(1, 1, 1);
            int divisor = (int) divisor(s[1], s[2]);
            Check.held("11: letters of " + Arrays.toString(s), lots.odds(0, 1), lots, s[1] / divisor, s[2] / divisor);
        }
        LettersByLot lots = of(2, 3, 1, 0, 0);
        lots.word(0, 5, 0b00000);
        lots.word(1, 5, 0b11111);
        // LEADS on themselves: 3124 / 243 and 1364, no LAPS between them.
        Check.held("11: 00000 ahead of 11111", lots.odds(0, 1), lots, 1364 * 243 / 44, 3124 / 44);
        Check.held("11: 11111 ahead of 00000", lots.odds(1, 0), lots, 3124 / 44, 1364 * 243 / 44);
        lots.word(0, 1, 0);
        // 11111 comes ahead of 0 only as the first five letters.
        Check.held("11: 11111 ahead of 0", lots.odds(1, 0), lots, 1, 1023);
        Check.held("10: 11111 ahead of 0", lots.first(3, 1), lots, 1, 1024);
    }

    /** "A of 3 letters or more"; "or it has less than 3 letters" */
    private static void bestOfLessThanThreeLetters() {
        for (int q = 2; q <= 4; q++) {
            LettersByLot lots = of(q, 1, 1, 1, 1);
            lots.cover();
            long top = lots.top();
            long bottom = lots.bottom();
            int power = 1;
            for (int n = 1; n <= 2; n++) {
                power *= q;
                for (int code = 0; code < power; code++) {
                    lots.word(0, n, code);
                    Check.due("12: " + n + " letters, code " + code, lots.best(0), -1);
                }
            }
            Check.hand("12: refusals", lots, top, bottom);
            lots.word(0, 3, 0);
            // 100 has no LAP but its length on itself, two on 000: q^3 + q^2 + q to q^3 - q^2 - q.
            Check.due("12: three letters", lots.best(0), q * q);
            Check.hand("12: three letters", lots, q * q + q + 1, 2 * q * q);
        }
    }

    /** "on an EVEN SOURCE" (all w are alike); "the SOURCE is not EVEN" */
    private static void bestOnEverySource() {
        for (int[] s : SOURCES) {
            LettersByLot lots = of(s);
            lots.cover();
            long top = lots.top();
            boolean even = s[1] == s[2] && (s[0] < 3 || s[2] == s[3]);
            for (int n = 3; n <= 5; n++) {
                lots.word(0, n, 0);
                int due = even ? (int) Math.pow(s[0], n - 1) : -1;
                Check.due("12: of " + Arrays.toString(s) + ", n " + n, lots.best(0), due);
            }
            if (!even) {
                Check.due("12: what was at hand", lots.top(), top);
            }
        }
    }

    /** "of all other WORDS as long as A .. of several that with the least CODE": each one tried by odds(). */
    private static void bestOfAllOtherWords() {
        int[][] lengths = {{3, 4, 5}, {3}, {3}};
        for (int q = 2; q <= 4; q++) {
            for (int n : lengths[q - 2]) {
                int power = (int) Math.pow(q, n);
                for (int code = 0; code < power; code++) {
                    bestByOdds(q, n, code, power);
                }
            }
        }
    }

    private static void bestByOdds(int q, int n, int code, int power) {
        LettersByLot lots = of(q, 1, 1, 1, 1);
        lots.word(0, n, code);
        int due = -1;
        long top = 0;
        long bottom = 1;
        for (int other = 0; other < power; other++) {
            lots.word(1, n, other);
            if (lots.odds(1, 0)) {
                long ahead = lots.top();
                long whole = ahead + lots.bottom();
                if (ahead * bottom > top * whole) {
                    due = other;
                    top = ahead;
                    bottom = whole;
                }
            }
        }
        long divisor = divisor(top, bottom);
        String told = "12: q " + q + ", n " + n + ", code " + code;
        Check.due(told, lots.best(0), due);
        Check.hand(told, lots, top / divisor, bottom / divisor);
        Check.due(told + ", another one", due == code, false);
        Check.due(told + " stays", lots.tell(0, 1), code);
    }

    /** The longest of four letters: the answer to 33333 begins with the least other letter. */
    private static void bestOfTheLongest() {
        LettersByLot lots = of(4, 1, 1, 1, 1);
        lots.word(7, 5, 1023);
        Check.due("12: best to 33333", lots.best(7), 255);
        Check.hand("12: best to 33333", lots, 341, 512);
        lots.word(7, 5, 0);
        Check.due("12: best to 00000", lots.best(7), 256);
        Check.hand("12: best to 00000", lots, 341, 512);
        lots = of(3, 1, 1, 1, 0);
        lots.word(7, 5, 242);
        Check.due("12: best to 22222", lots.best(7), 80);
        Check.hand("12: best to 22222", lots, 121, 162);
    }

    /** "NONE: there is none" */
    private static void bestWhereThereIsNone() {
        LettersByLot lots = new LettersByLot();
        lots.word(3, 3, 0);
        lots.cover();
        for (int slot : NO_SLOTS) {
            Check.due("12: slot " + slot, lots.best(slot), -1);
        }
        for (int slot = 0; slot < 8; slot++) {
            if (slot != 3) {
                Check.due("12: none in " + slot, lots.best(slot), -1);
            }
        }
        lots.drop(3);
        Check.due("12: none any more", lots.best(3), -1);
        Check.hand("12: refusals", lots, 3, 1);
    }

    /** "the mean number of letters until each came", on every source that can be. */
    private static void coversOfEverySource() {
        int[][] due = {{3, 1}, {7, 2}, {7, 2}, {13, 3}, {13, 3}, {3, 1}, {11, 2}, {19, 3}, {19, 3}, {19, 3}, {25, 3}};
        for (int i = 0; i < SOURCES.length; i++) {
            LettersByLot lots = of(SOURCES[i]);
            lots.cover();
            Check.hand("13: " + Arrays.toString(SOURCES[i]), lots, due[i][0], due[i][1]);
            lots.add(0);
            lots.word(0, 1, 0);
            lots.cover();
            Check.hand("13: whatever the text has", lots, due[i][0], due[i][1]);
        }
    }

    /** "False: there is none, or it did not come." */
    private static void wonOfNoneAndOfWhatDidNotCome() {
        LettersByLot lots = new LettersByLot();
        lots.word(0, 1, 0);
        lots.word(1, 1, 1);
        lots.word(2, 5, 0);
        lots.cover();
        for (int slot = 0; slot < 8; slot++) {
            Check.due("14: the empty text, slot " + slot, lots.won(slot), false);
        }
        for (int i = 0; i < 4; i++) {
            lots.add(0);
        }
        Check.due("14: 1 did not come", lots.won(1), false);
        Check.due("14: one letter is lacking", lots.won(2), false);
        for (int slot : NO_SLOTS) {
            Check.due("14: slot " + slot, lots.won(slot), false);
        }
        Check.due("14: none", lots.won(3), false);
        Check.hand("14: refusals", lots, 3, 1);
        lots.add(0);
        Check.held("14: with the last letter", lots.won(2), lots, 62, 1);
        Check.held("14: 0", lots.won(0), lots, 2, 1);
        lots.drop(0);
        Check.due("14: none any more", lots.won(0), false);
        lots.draw(1, 0);
        Check.due("14: the empty text again", lots.won(2), false);
        Check.hand("14: refusals again", lots, 2, 1);
    }

    /** "at most 300 letters": a WORD that comes with the last letter that fits. */
    private static void wonAtTheBoundsOfTheText() {
        LettersByLot lots = of(2, 3, 1, 0, 0);
        lots.word(0, 5, 0b00001);
        lots.word(1, 1, 1);
        for (int i = 0; i < 299; i++) {
            lots.add(0);
        }
        Check.due("14: 299 letters", lots.won(0), false);
        lots.add(1);
        Check.held("14: 300 letters", lots.won(0), lots, 1024, 81);
        Check.held("14: the last letter", lots.won(1), lots, 4, 1);
        Check.due("14: where it came", lots.came(0, 0), 300);
        Check.due("14: full", lots.add(1), -1);
        Check.held("14: of the full text", lots.won(0), lots, 1024, 81);
    }

    /** "all purses together when A came FIRST in the TEXT (nobody bets any more then)" */
    private static void wonWhenItCameFirst() {
        LettersByLot lots = of(2, 1, 3, 0, 0);
        lots.word(0, 3, 0b111);
        lots.word(1, 2, 0b10);
        for (int letter : new int[] {1, 1, 1, 1, 1, 1, 0, 1, 0}) {
            lots.add(letter);
        }
        // 64 / 27, 16 / 9 and 4 / 3 of those that came ahead of the first three letters.
        Check.held("14: 111, though it comes again", lots.won(0), lots, 148, 27);
        Check.held("14: 10, though it comes again", lots.won(1), lots, 16, 3);
        lots.draw(0, 0);
        lots.add(1);
        lots.add(0);
        Check.held("14: as the whole text", lots.won(1), lots, 16, 3);
    }

    /** "what is refused leaves what was at hand" */
    private static void refusedLeavesWhatWasAtHand() {
        LettersByLot lots = of(3, 1, 2, 1, 0);
        lots.word(0, 2, 1);
        lots.word(1, 3, 1);
        refuseAll("15, 16: at first", lots, 0, 1);
        lots.cover();
        refuseAll("15, 16: cover", lots, 19, 3);
        Check.held("8: lead", lots.lead(0, 0), lots, 8, 1);
        refuseAll("15, 16: lead", lots, 8, 1);
        Check.held("8: no laps", lots.lead(0, 1), lots, 0, 1);
        refuseAll("15, 16: nought", lots, 0, 1);
        Check.held("9: spread", lots.wait(0, 1), lots, 8 * 8 - 3 * 8, 1);
        refuseAll("15, 16: wait", lots, 40, 1);
    }

    private static void refuseAll(String told, LettersByLot lots, long top, long bottom) {
        Check.due(told + ", lead", lots.lead(0, 2), false);
        Check.hand(told + ", lead", lots, top, bottom);
        Check.due(told + ", wait", lots.wait(0, 2), false);
        Check.hand(told + ", wait", lots, top, bottom);
        Check.due(told + ", first", lots.first(3, -1), false);
        Check.hand(told + ", first", lots, top, bottom);
        Check.due(told + ", first of another slot", lots.first(1, 1), false);
        Check.hand(told + ", first of another slot", lots, top, bottom);
        Check.due(told + ", odds", lots.odds(0, 1), false);
        Check.hand(told + ", odds", lots, top, bottom);
        Check.due(told + ", best", lots.best(1), -1);
        Check.hand(told + ", best", lots, top, bottom);
        Check.due(told + ", won", lots.won(0), false);
        Check.hand(told + ", won", lots, top, bottom);
    }
}
