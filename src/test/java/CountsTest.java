/** Promises 17 to 19. */
public final class CountsTest {
    private static final int LEAST = Integer.MIN_VALUE;
    private static final int GREATEST = Integer.MAX_VALUE;
    private static final long ALL = 1L << 60;

    public static void main(String[] args) {
        times();
        longTimes();
        refusedTimes();
        never();
        longNever();
        covered();
        Check.end();
    }

    private static void times() {
        LettersByLot lots = new LettersByLot();
        lots.word(0, 2, 0b11);
        // Of 8 texts: 111 has two places, 011 and 110 one.
        Check.due("17: two places", lots.times(0, 3, 2, true), 1);
        Check.due("17: one place", lots.times(0, 3, 1, true), 2);
        Check.due("17: no place", lots.times(0, 3, 0, true), 5);
        Check.due("17: three places", lots.times(0, 3, 3, true), 0);
        Check.due("17: one or more", lots.times(0, 3, 1, false), 3);
        Check.due("17: two or more", lots.times(0, 3, 2, false), 1);
        Check.due("17: three or more", lots.times(0, 3, 3, false), 0);
        Check.due("17: nought or more", lots.times(0, 3, 0, false), 8);
        Check.due("17: just k below 0", lots.times(0, 3, -1, true), 0);
        Check.due("17: just the least k", lots.times(0, 3, LEAST, true), 0);
        Check.due("17: just the greatest k", lots.times(0, 3, GREATEST, true), 0);
        Check.due("17: k below 0 or more", lots.times(0, 3, -1, false), 8);
        Check.due("17: the least k or more", lots.times(0, 3, LEAST, false), 8);
        Check.due("17: the greatest k or more", lots.times(0, 3, GREATEST, false), 0);
        Check.due("17: the empty text, no place", lots.times(0, 0, 0, true), 1);
        Check.due("17: the empty text, one place", lots.times(0, 0, 1, true), 0);
        Check.due("17: the empty text, one or more", lots.times(0, 0, 1, false), 0);
        Check.due("17: a text shorter than the word", lots.times(0, 1, 0, true), 2);
        lots.source(3, 1, 2, 1, 0);
        lots.word(0, 3, 1 * 9 + 0 * 3 + 1);
        // 10101 alone has two: 2 * 1 * 2 * 1 * 2.
        Check.due("17: 101 at two places", lots.times(0, 5, 2, true), 8);
        Check.due("17: 101 at one place", lots.times(0, 4, 1, true), 32);
    }

    private static void longTimes() {
        LettersByLot lots = new LettersByLot();
        lots.source(2, 3, 1, 0, 0);
        lots.word(0, 1, 0);
        lots.word(1, 5, 0);
        Check.due("17: 30 places of 30", lots.times(0, 30, 30, true), 205891132094649L);
        Check.due("17: 30 places or more", lots.times(0, 30, 30, false), 205891132094649L);
        Check.due("17: 31 places or more", lots.times(0, 30, 31, false), 0);
        Check.due("17: 26 places of five letters", lots.times(1, 30, 26, true), 205891132094649L);
        Check.due("17: 27 places of five letters", lots.times(1, 30, 27, true), 0);
        Check.due("17: all of 30 letters", lots.times(1, 30, 0, false), ALL);
        long sum = 0;
        for (int k = 30; k >= 0; k--) {
            sum += lots.times(1, 30, k, true);
            Check.due("17: " + k + " or more of 30 letters", lots.times(1, 30, k, false), sum);
        }
        Check.due("17: all counts together", sum, ALL);
        Model model = new Model();
        model.source(2, 3, 1, 0, 0);
        model.word(1, 5, 0);
        Check.due("17: 4 of 30 letters", lots.times(1, 30, 4, true), model.times(1, 30, 4, true));
        Check.due("17: 4 of 29 letters or more", lots.times(1, 29, 4, false), model.times(1, 29, 4, false));
    }

    private static void refusedTimes() {
        LettersByLot lots = new LettersByLot();
        lots.word(0, 2, 0b11);
        for (boolean just : new boolean[] {true, false}) {
            Check.due("17: no word", lots.times(1, 3, 0, just), -1);
            Check.due("17: no word, k below 0", lots.times(1, 3, -1, just), -1);
            Check.due("17: no slot", lots.times(8, 3, 0, just), -1);
            Check.due("17: slot -1", lots.times(-1, 3, 0, just), -1);
            Check.due("17: n 31", lots.times(0, 31, 0, just), -1);
            Check.due("17: n 31, k beyond it", lots.times(0, 31, 40, just), -1);
            Check.due("17: n -1, k below 0", lots.times(0, -1, -1, just), -1);
            Check.due("17: n least", lots.times(0, LEAST, 0, just), -1);
            Check.due("17: n greatest", lots.times(0, GREATEST, 0, just), -1);
        }
    }

    private static void never() {
        LettersByLot lots = new LettersByLot();
        lots.word(0, 2, 0b11);
        lots.word(1, 3, 0b000);
        lots.word(6, 2, 0b11);
        int[] withoutEleven = {1, 2, 3, 5, 8, 13, 21, 34};
        for (int n = 0; n < withoutEleven.length; n++) {
            Check.due("18: without 11, n " + n, lots.never(1, n), withoutEleven[n]);
            Check.due("18: twice the same, n " + n, lots.never(1 | 1 << 6, n), withoutEleven[n]);
        }
        Check.due("18: without 11 and 000", lots.never(3, 3), 4);
        Check.due("18: no slots", lots.never(0, 5), 32);
        Check.due("18: slots without words", lots.never(0b10111100, 5), 32);
        Check.due("18: bits beyond the slots", lots.never(~255, 5), 32);
        Check.due("18: all bits", lots.never(-1, 3), 4);
        lots.word(2, 1, 0);
        lots.word(3, 1, 1);
        Check.due("18: no letter, the empty text", lots.never(12, 0), 1);
        Check.due("18: no letter", lots.never(12, 1), 0);
        lots.word(4, 5, 0b01110);
        Check.due("18: a word within another one", lots.never(0b10001, 5), 13);
        Check.due("18: n 31", lots.never(1, 31), -1);
        Check.due("18: n -1", lots.never(0, -1), -1);
        Check.due("18: n least", lots.never(0, LEAST), -1);
    }

    private static void longNever() {
        LettersByLot lots = new LettersByLot();
        Model model = new Model();
        lots.source(4, 1, 1, 1, 1);
        model.source(4, 1, 1, 1, 1);
        int[] codes = {0, 1023, 27, 228, 341, 682, 433, 590};
        for (int slot = 0; slot < 8; slot++) {
            lots.word(slot, 5, codes[slot]);
            model.word(slot, 5, codes[slot]);
        }
        Check.due("18: eight long words", lots.never(255, 30), model.never(255, 30));
        Check.due("18: six long words", lots.never(0b11011110, 29), model.never(0b11011110, 29));
        Check.due("18: all of 30 letters", lots.never(0, 30), ALL);
    }

    private static void covered() {
        LettersByLot lots = new LettersByLot();
        Check.due("19: 30 letters of two", lots.covered(30), (1L << 30) - 2);
        lots.source(3, 1, 2, 1, 0);
        Check.due("19: the empty text", lots.covered(0), 0);
        Check.due("19: two letters of three", lots.covered(2), 0);
        Check.due("19: three letters of three", lots.covered(3), 12);
        Check.due("19: four letters of three", lots.covered(4), 2 * 12 + 2 * 12 + 4 * 12);
        lots.source(4, 1, 1, 1, 1);
        Check.due("19: three letters of four", lots.covered(3), 0);
        Check.due("19: four letters of four", lots.covered(4), 24);
        Check.due("19: 30 letters of four", lots.covered(30),
                ALL - 4 * 205891132094649L + 6 * (1L << 30) - 4);
        Check.due("19: n 31", lots.covered(31), -1);
        Check.due("19: n -1", lots.covered(-1), -1);
        Check.due("19: n least", lots.covered(LEAST), -1);
        Check.due("19: n greatest", lots.covered(GREATEST), -1);
    }
}
