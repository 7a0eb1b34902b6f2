import java.util.Arrays;

/** The boundary cases of terms 4 and of promises 20 to 23: one method for each sentence that names one. */
public final class BoundsOfTextsTest {
    private static final int LEAST = Integer.MIN_VALUE;
    private static final int GREATEST = Integer.MAX_VALUE;
    private static final int[] NO_SLOTS = {
        LEAST, LEAST + 7, -256, -8, -7, -1, 8, 9, 15, 16, 31, 32, 33, 63, 64, 255, 256, 1 << 16, GREATEST};
    private static final int[][] SOURCES = {
        {2, 1, 1, 0, 0}, {2, 1, 2, 0, 0}, {2, 2, 1, 0, 0}, {2, 1, 3, 0, 0}, {2, 3, 1, 0, 0}, {2, 2, 2, 0, 0},
        {3, 1, 1, 1, 0}, {3, 2, 1, 1, 0}, {3, 1, 2, 1, 0}, {3, 1, 1, 2, 0}, {4, 1, 1, 1, 1}};
    private static final int[] SEEDS = {
        LEAST, LEAST + 1, -65537, -65536, -12345, -2, -1, 0, 1, 2, 65535, 65536, 1103515245, GREATEST - 1, GREATEST};

    public static void main(String[] args) {
        drawsOfNoughtToThreeHundred();
        drawsOfOtherLengths();
        drawOfNoLetters();
        seedsThatWrapAround();
        shiftedWithoutTheSign();
        theLeastLetterAboveTheRest();
        aSeedBehindItThatIsNought();
        drawTakesTheOldTextsPlace();
        addsUpToThreeHundred();
        addsBehindWhatIsDrawn();
        lettersThatThereAreNot();
        lettersOfTheTextFromNoughtOn();
        cameOfTheEmptyText();
        cameWithTheFirstAndTheLastLetter();
        cameOfTextsShorterThanTheWord();
        cameFirstThoughItComesAgain();
        cameAtPlacesThatLap();
        cameOfNoneAndOfAnotherWhat();
        Check.end();
    }

    private static LettersByLot of(int... s) {
        LettersByLot lots = new LettersByLot();
        lots.source(s[0], s[1], s[2], s[3], s[4]);
        return lots;
    }

    /** The seed behind one letter, as a number of 32 bits without a sign. */
    private static long next(long seed) {
        return ((seed & 0xFFFFFFFFL) * 1103515245L + 12345L) & 0xFFFFFFFFL;
    }

    private static int letterOf(long seed, int... s) {
        int total = 0;
        for (int i = 0; i < s[0]; i++) {
            total += s[i + 1];
        }
        int d = (int) ((seed >> 16) % total);
        int letter = 0;
        for (int sum = s[1]; sum <= d; sum += s[letter + 1]) {
            letter++;
        }
        return letter;
    }

    /** "The TEXT becomes n letters DRAWN from a seed: the seed behind it", n 0 .. 300 */
    private static void drawsOfNoughtToThreeHundred() {
        for (int n : new int[] {0, 1, 2, 5, 298, 299, 300}) {
            LettersByLot lots = of(3, 1, 2, 1, 0);
            long seed = 99;
            for (int i = 0; i < n; i++) {
                seed = next(seed);
            }
            Check.due("20: seed behind " + n, lots.draw(99, n), (int) seed);
            Check.due("20: the last of " + n, n == 0 || lots.letter(n - 1) == letterOf(seed, 3, 1, 2, 1, 0), true);
            Check.due("20: none behind " + n, lots.letter(n), -1);
            Check.due("20: one more behind " + n, lots.add(0), n == 300 ? -1 : n + 1);
        }
    }

    /** "0, and it stays: n is not 0 .. 300." */
    private static void drawsOfOtherLengths() {
        int[] wrong = {LEAST, LEAST + 300, -300, -2, -1, 301, 302, 512, 600, 65536, GREATEST};
        for (int n : wrong) {
            LettersByLot empty = new LettersByLot();
            Check.due("20: n " + n, empty.draw(7, n), 0);
            Check.due("20: n " + n + ", it stays empty", empty.letter(0), -1);
            Check.due("20: n " + n + ", it stays empty", empty.add(1), 1);
            LettersByLot full = new LettersByLot();
            full.draw(3, 300);
            Check.due("20: n " + n + ", full", full.draw(7, n), 0);
            long seed = 3;
            for (int i = 0; i < 300; i++) {
                seed = next(seed);
                Check.due("20: n " + n + ", letter " + i + " stays", full.letter(i), letterOf(seed, 2, 1, 1, 0, 0));
            }
            Check.due("20: n " + n + ", it stays full", full.add(1), -1);
        }
    }

    /** n 0: the seed itself is behind it, and the TEXT is empty. */
    private static void drawOfNoLetters() {
        for (int seed : SEEDS) {
            LettersByLot lots = new LettersByLot();
            lots.draw(5, 300);
            Check.due("20: no letters, seed " + seed, lots.draw(seed, 0), seed);
            Check.due("20: no letter 0", lots.letter(0), -1);
            Check.due("20: no letter 299", lots.letter(299), -1);
            Check.due("20: the first one again", lots.add(0), 1);
        }
    }

    /** "the seed becomes 1103515245 times itself and 12345 (32 bits)" */
    private static void seedsThatWrapAround() {
        for (int[] s : SOURCES) {
            for (int start : SEEDS) {
                LettersByLot lots = of(s);
                long seed = start;
                for (int i = 0; i < 300; i++) {
                    seed = next(seed);
                }
                String told = "20: seed " + start + " of " + Arrays.toString(s);
                Check.due(told, lots.draw(start, 300), (int) seed);
                seed = start;
                for (int i = 0; i < 300; i++) {
                    seed = next(seed);
                    Check.due(told + ", letter " + i, lots.letter(i), letterOf(seed, s));
                }
            }
        }
        LettersByLot lots = new LettersByLot();
        Check.due("20: seed 0", lots.draw(0, 1), 12345);
        Check.due("20: seed 1", lots.draw(1, 1), 1103527590);
        Check.due("20: seed 2 is beyond the greatest int", lots.draw(2, 1), -2087924461);
        Check.due("20: seed -1", lots.draw(-1, 1), -1103502900);
        Check.due("20: the least seed", lots.draw(LEAST, 1), LEAST + 12345);
    }

    /** "shifted right by 16 without its sign, the rest by W": with its sign the rest by 3 would be another one. */
    private static void shiftedWithoutTheSign() {
        LettersByLot lots = of(3, 1, 1, 1, 0);
        int below = 0;
        for (int seed = 0; seed < 100; seed++) {
            int behind = lots.draw(seed, 1);
            if (behind < 0) {
                below++;
                Check.due("20: seed " + seed, lots.letter(0), (behind + (1L << 32) >> 16) % 3);
            }
        }
        Check.due("20: some are below 0", below > 20, true);
    }

    /** "the least i such that w(0) + .. + w(i) is above d": each d of each source. */
    private static void theLeastLetterAboveTheRest() {
        // Rests 0, 1, 2, 3 in turn.
        int[][] due = {
            {0, 1}, {0, 1, 1}, {0, 0, 1}, {0, 1, 1, 1}, {0, 0, 0, 1}, {0, 0, 1, 1},
            {0, 1, 2}, {0, 0, 1, 2}, {0, 1, 1, 2}, {0, 1, 2, 2}, {0, 1, 2, 3}};
        for (int i = 0; i < SOURCES.length; i++) {
            LettersByLot lots = of(SOURCES[i]);
            int seen = 0;
            for (int seed = 1; seed < 100; seed++) {
                int behind = lots.draw(seed, 1);
                int d = (behind >>> 16) % due[i].length;
                seen |= 1 << d;
                Check.due("20: d " + d + " of " + Arrays.toString(SOURCES[i]), lots.letter(0), due[i][d]);
            }
            Check.due("20: each d is seen", seen, (1 << due[i].length) - 1);
        }
    }

    /** The answer 0 is no refusal if n is 0 .. 300: the TEXT is drawn. */
    private static void aSeedBehindItThatIsNought() {
        int inverse = 1;
        for (int i = 0; i < 5; i++) {
            inverse *= 2 - 1103515245 * inverse;
        }
        int seed = -12345 * inverse;
        LettersByLot lots = new LettersByLot();
        lots.add(1);
        lots.add(1);
        Check.due("20: seed behind it is 0", lots.draw(seed, 1), 0);
        Check.due("20: drawn", lots.letter(0), 0);
        Check.due("20: one letter", lots.letter(1), -1);
        Check.due("20: seed 0, no letters", lots.draw(0, 0), 0);
        Check.due("20: empty", lots.letter(0), -1);
    }

    /** "The TEXT becomes": what was there is gone, be it longer or shorter. */
    private static void drawTakesTheOldTextsPlace() {
        LettersByLot lots = new LettersByLot();
        lots.word(0, 1, 1);
        for (int i = 0; i < 10; i++) {
            lots.add(1);
        }
        lots.draw(0, 3);
        Check.due("20: 000", lots.came(0, 1), 0);
        Check.due("20: three letters", lots.letter(3), -1);
        Check.due("20: the fourth one", lots.add(1), 4);
        lots.draw(0, 3);
        Check.due("20: three letters again", lots.letter(3), -1);
        Check.due("20: the same again", lots.came(0, 1), 0);
        Check.due("20: the word stays", lots.tell(0, 1), 1);
    }

    /** "at most 300 letters"; "how many it has. NONE: .. or it has 300." */
    private static void addsUpToThreeHundred() {
        LettersByLot lots = of(4, 1, 1, 1, 1);
        for (int i = 0; i < 300; i++) {
            Check.due("21: letter " + i, lots.add(i % 4), i + 1);
        }
        for (int letter : new int[] {0, 1, 3, 4, -1, LEAST, GREATEST}) {
            Check.due("21: full, letter " + letter, lots.add(letter), -1);
        }
        Check.due("22: the last one stays", lots.letter(299), 3);
        Check.due("22: none behind it", lots.letter(300), -1);
        Check.due("22: the first one stays", lots.letter(0), 0);
        lots.draw(1, 299);
        Check.due("21: room again", lots.add(2), 300);
        Check.due("21: full again", lots.add(2), -1);
    }

    /** "A letter comes behind the TEXT", be it drawn or empty. */
    private static void addsBehindWhatIsDrawn() {
        LettersByLot lots = of(2, 1, 3, 0, 0);
        int[] lengths = {0, 1, 150, 299};
        for (int n : lengths) {
            lots.draw(8, n);
            Check.due("21: behind " + n, lots.add(0), n + 1);
            Check.due("22: it is the last one", lots.letter(n), 0);
            Check.due("22: none behind it", lots.letter(n + 1), -1);
        }
        lots.draw(8, 300);
        Check.due("21: behind 300", lots.add(0), -1);
    }

    /** "NONE: there is no such letter" */
    private static void lettersThatThereAreNot() {
        for (int q = 2; q <= 4; q++) {
            LettersByLot lots = of(q, 1, 1, 1, 1);
            for (int letter : new int[] {LEAST, LEAST + 1, -256, -4, -1, q, q + 1, 4, 5, 8, 256, 257, GREATEST}) {
                Check.due("21: letter " + letter + " of " + q, lots.add(letter), -1);
            }
            Check.due("22: empty yet", lots.letter(0), -1);
            for (int letter = 0; letter < q; letter++) {
                Check.due("21: letter " + letter + " of " + q, lots.add(letter), letter + 1);
                Check.due("21: letter q of " + q, lots.add(q), -1);
                Check.due("22: letter " + letter, lots.letter(letter), letter);
                Check.due("22: none behind it", lots.letter(letter + 1), -1);
            }
        }
    }

    /** "from 0 on; NONE if there is none such" */
    private static void lettersOfTheTextFromNoughtOn() {
        int[] beyond = {LEAST, LEAST + 1, -300, -2, -1, 300, 301, 302, 512, 65536, GREATEST - 1, GREATEST};
        LettersByLot lots = new LettersByLot();
        for (int length : new int[] {0, 1, 2, 299, 300}) {
            lots.draw(4, length);
            for (int i : beyond) {
                Check.due("22: letter " + i + " of " + length, lots.letter(i), -1);
            }
            Check.due("22: behind the last of " + length, lots.letter(length), -1);
            Check.due("22: the first of " + length, lots.letter(0) >= 0, length > 0);
            Check.due("22: the last of " + length, lots.letter(length - 1) >= 0, length > 0);
        }
    }

    /** "NONE if it did not", and no places, in a text of no letters */
    private static void cameOfTheEmptyText() {
        LettersByLot lots = new LettersByLot();
        for (int n = 1; n <= 5; n++) {
            lots.word(n, n, 0);
            Check.due("23: n " + n, lots.came(n, 0), -1);
            Check.due("23: places, n " + n, lots.came(n, 1), 0);
        }
        Check.due("23: no word", lots.came(0, 0), -1);
        Check.due("23: places of no word", lots.came(0, 1), -1);
    }

    /** "At how many letters a WORD came FIRST": 1 at least, 300 at most */
    private static void cameWithTheFirstAndTheLastLetter() {
        LettersByLot lots = new LettersByLot();
        lots.word(0, 1, 0);
        lots.word(1, 1, 1);
        lots.word(2, 5, 0b00001);
        lots.add(0);
        Check.due("23: the first letter", lots.came(0, 0), 1);
        Check.due("23: one place", lots.came(0, 1), 1);
        for (int i = 1; i < 299; i++) {
            lots.add(0);
        }
        Check.due("23: not yet", lots.came(1, 0), -1);
        Check.due("23: the five not yet", lots.came(2, 0), -1);
        lots.add(1);
        Check.due("23: the last letter", lots.came(1, 0), 300);
        Check.due("23: the last five", lots.came(2, 0), 300);
        Check.due("23: one place of five", lots.came(2, 1), 1);
        Check.due("23: 299 places", lots.came(0, 1), 299);
    }

    /** A WORD as long as the TEXT and one letter longer. */
    private static void cameOfTextsShorterThanTheWord() {
        for (int n = 1; n <= 5; n++) {
            LettersByLot lots = new LettersByLot();
            lots.word(0, n, 0);
            for (int i = 1; i < n; i++) {
                lots.add(0);
            }
            Check.due("23: one letter less than " + n, lots.came(0, 0), -1);
            Check.due("23: no place, " + n, lots.came(0, 1), 0);
            lots.add(0);
            Check.due("23: as many as " + n, lots.came(0, 0), n);
            Check.due("23: one place, " + n, lots.came(0, 1), 1);
        }
    }

    /** "at the least such number of letters it came FIRST" */
    private static void cameFirstThoughItComesAgain() {
        LettersByLot lots = new LettersByLot();
        lots.word(0, 2, 0b01);
        for (int letter : new int[] {1, 1, 0, 0, 1}) {
            lots.add(letter);
        }
        Check.due("23: 01 at 5", lots.came(0, 0), 5);
        for (int letter : new int[] {0, 1, 1, 0, 1}) {
            lots.add(letter);
            Check.due("23: 01 at 5 still", lots.came(0, 0), 5);
        }
        Check.due("23: three places", lots.came(0, 1), 3);
        lots.word(0, 2, 0b11);
        Check.due("23: a word told behind the text", lots.came(0, 0), 2);
    }

    /** "at how many places it stands there" (places may lap), up to 300 */
    private static void cameAtPlacesThatLap() {
        LettersByLot lots = new LettersByLot();
        for (int n = 1; n <= 5; n++) {
            lots.word(n, n, 0);
        }
        for (int i = 0; i < 300; i++) {
            lots.add(0);
        }
        for (int n = 1; n <= 5; n++) {
            Check.due("23: places of " + n, lots.came(n, 1), 301 - n);
            Check.due("23: first of " + n, lots.came(n, 0), n);
        }
        lots.draw(0, 0);
        for (int letter : new int[] {0, 1, 0, 1, 0, 1, 0}) {
            lots.add(letter);
        }
        lots.word(0, 5, 0b01010);
        Check.due("23: 01010 in 0101010", lots.came(0, 1), 2);
    }

    /** "NONE: there is no WORD, or for another what." */
    private static void cameOfNoneAndOfAnotherWhat() {
        LettersByLot lots = new LettersByLot();
        lots.word(5, 1, 0);
        lots.add(0);
        for (int what : new int[] {LEAST, LEAST + 1, -256, -2, -1, 2, 3, 4, 256, 257, GREATEST}) {
            Check.due("23: what " + what, lots.came(5, what), -1);
            Check.due("23: no word, what " + what, lots.came(4, what), -1);
        }
        for (int slot : NO_SLOTS) {
            Check.due("23: slot " + slot, lots.came(slot, 0), -1);
            Check.due("23: places of slot " + slot, lots.came(slot, 1), -1);
        }
        for (int slot = 0; slot < 8; slot++) {
            Check.due("23: in slot " + slot, lots.came(slot, 0), slot == 5 ? 1 : -1);
            Check.due("23: places in slot " + slot, lots.came(slot, 1), slot == 5 ? 1 : -1);
        }
        lots.drop(5);
        Check.due("23: none any more", lots.came(5, 1), -1);
    }
}
