import java.util.Arrays;

/** The boundary cases of terms 1 and of promises 1 to 7: one method for each sentence that names one. */
public final class BoundsOfWordsTest {
    private static final int LEAST = Integer.MIN_VALUE;
    private static final int GREATEST = Integer.MAX_VALUE;
    private static final int[] NO_SLOTS = {
        LEAST, LEAST + 7, -256, -8, -7, -1, 8, 9, 15, 16, 31, 32, 33, 63, 64, 255, 256, 1 << 16, GREATEST};

    public static void main(String[] args) {
        atFirstTwoLettersAlike();
        atFirstNoWords();
        atFirstNoTextAndNoFraction();
        sourcesNearTheBounds();
        sumsThatWrapAround();
        weightsBeyondQCountForNothing();
        anotherSourceLeavesNoWordsAndNoText();
        theSameSourceIsAnotherOne();
        codesFromNoughtUpToThePower();
        wordsOfOneToFiveLetters();
        slotsNoughtToSeven();
        aWordTakesTheOldOnesPlace();
        dropOfNoneThere();
        tellsUpToTheLastLetter();
        lapsUpToTheLesserLength();
        lapsOfWhatHasNone();
        withinAlsoIfBothAreTheSame();
        withinOneBehindTheOther();
        withinOfWhatHasNone();
        Check.end();
    }

    /** "At first q is 2 and both w are 1." */
    private static void atFirstTwoLettersAlike() {
        LettersByLot lots = new LettersByLot();
        Check.due("1: W", lots.never(0, 1), 2);
        Check.due("1: W to the power of 30", lots.never(0, 30), 1L << 30);
        Check.due("1: letter 2 in a word", lots.word(0, 1, 2), false);
        Check.due("1: letter 1 in a word", lots.word(0, 1, 1), true);
        Check.due("1: weight of letter 0", lots.never(1, 1), 1);
        Check.due("1: add(2)", lots.add(2), -1);
        Check.due("1: add(1)", lots.add(1), 1);
        lots.word(0, 3, 0);
        Check.due("1: EVEN", lots.best(0), 4);
    }

    /** "no WORDS" */
    private static void atFirstNoWords() {
        LettersByLot lots = new LettersByLot();
        for (int slot = 0; slot < 8; slot++) {
            String at = "1: slot " + slot + ", ";
            Check.due(at + "tell", lots.tell(slot, 0), -1);
            Check.due(at + "drop", lots.drop(slot), false);
            Check.due(at + "laps", lots.laps(slot, slot), -1);
            Check.due(at + "within", lots.within(slot, slot), false);
            Check.due(at + "lead", lots.lead(slot, slot), false);
            Check.due(at + "wait", lots.wait(slot, 0), false);
            Check.due(at + "first", lots.first(1 << slot, slot), false);
            Check.due(at + "mean of first", lots.first(1 << slot, -1), false);
            Check.due(at + "odds", lots.odds(slot, 7 - slot), false);
            Check.due(at + "best", lots.best(slot), -1);
            Check.due(at + "won", lots.won(slot), false);
            Check.due(at + "times", lots.times(slot, 0, 0, true), -1);
            Check.due(at + "never", lots.never(1 << slot, 2), 4);
            Check.due(at + "came", lots.came(slot, 1), -1);
        }
    }

    /** "the TEXT is empty; no answer, no fraction is at hand (0 and 1)" */
    private static void atFirstNoTextAndNoFraction() {
        LettersByLot lots = new LettersByLot();
        Check.hand("1: new", lots, 0, 1);
        Check.due("1: letter(0)", lots.letter(0), -1);
        Check.due("1: add is the first", lots.add(0), 1);
    }

    private static boolean canBe(int q, int... weights) {
        if (q < 2 || q > 4) {
            return false;
        }
        long sum = 0;
        for (int i = 0; i < q; i++) {
            if (weights[i] < 1) {
                return false;
            }
            sum += weights[i];
        }
        return sum <= 4;
    }

    /** "q 2 .. 4 .. w(i) whole, 1 at least, W their sum, 4 at most": every source whose numbers are near these. */
    private static void sourcesNearTheBounds() {
        int[] near = {-1, 0, 1, 2, 3, 4, 5};
        for (int q = -1; q <= 6; q++) {
            for (int a : near) {
                for (int b : near) {
                    for (int c : near) {
                        for (int d : near) {
                            nearSource(q, a, b, c, d);
                        }
                    }
                }
            }
        }
    }

    private static void nearSource(int q, int... w) {
        LettersByLot lots = new LettersByLot();
        String told = "2: source(" + q + ", " + Arrays.toString(w) + ")";
        if (!canBe(q, w)) {
            Check.due(told, lots.source(q, w[0], w[1], w[2], w[3]), -1);
            return;
        }
        int sum = 0;
        for (int i = 0; i < q; i++) {
            sum += w[i];
        }
        Check.due(told, lots.source(q, w[0], w[1], w[2], w[3]), sum);
        Check.due(told + " has no letter q", lots.add(q), -1);
        for (int i = 0; i < q; i++) {
            Check.due(told + " has letter " + i, lots.add(i), i + 1);
            Check.due(told + " has its word", lots.word(i, 1, i), true);
            Check.due(told + " without letter " + i, lots.never(1 << i, 1), sum - w[i]);
        }
    }

    /** The same sentence: no sum that wraps around may look as if it were 4 at most. */
    private static void sumsThatWrapAround() {
        int half = 1 << 30;
        int[][] wrong = {
            {2, GREATEST, GREATEST, 0, 0}, {2, GREATEST, 1, 0, 0}, {2, 1, GREATEST, 0, 0}, {2, LEAST, LEAST, 0, 0},
            {2, LEAST, LEAST + 2, 0, 0}, {2, GREATEST, LEAST + 3, 0, 0}, {2, LEAST + 3, GREATEST, 0, 0},
            {2, -1, 5, 0, 0}, {2, 5, -1, 0, 0}, {3, GREATEST, GREATEST, 4, 0}, {3, 6, GREATEST, GREATEST, 0},
            {3, GREATEST, 5, GREATEST, 0}, {3, -1, 1, 4, 0}, {3, 1, 1, -1, 4}, {4, half, half, half, half},
            {4, half + 3, half, half, half}, {4, half, half, half, half + 4}, {4, GREATEST, GREATEST, 2, 2},
            {4, 1, 1, 1, GREATEST}, {4, 1, 1, 1, LEAST}, {4, 2, 2, 2, -2}, {4, 2, 2, 0, -2},
            {LEAST, 1, 1, 1, 1}, {GREATEST, 1, 1, 1, 1}, {LEAST + 2, 1, 1, 1, 1}, {258, 1, 1, 1, 1}, {-2, 1, 1, 1, 1}};
        LettersByLot lots = new LettersByLot();
        for (int[] s : wrong) {
            Check.due("2: source of " + Arrays.toString(s), lots.source(s[0], s[1], s[2], s[3], s[4]), -1);
        }
    }

    /** "those beyond q count for nothing" */
    private static void weightsBeyondQCountForNothing() {
        for (int beyond : new int[] {LEAST, -1, 0, 1, 4, 5, GREATEST}) {
            LettersByLot two = new LettersByLot();
            Check.due("2: two letters", two.source(2, 1, 1, beyond, beyond), 2);
            two.word(0, 3, 0b010);
            Check.due("2: EVEN all the same", two.best(0), 0b001);
            Check.due("2: the weight of all", two.never(0, 30), 1L << 30);
            Check.due("2: covered by two", two.covered(2), 2);
            two.cover();
            Check.hand("2: cover of two", two, 3, 1);
            LettersByLot three = new LettersByLot();
            Check.due("2: three letters", three.source(3, 1, 1, 1, beyond), 3);
            three.word(0, 3, 0);
            Check.due("2: EVEN of three all the same", three.best(0), 9);
            Check.due("2: covered by three", three.covered(3), 6);
            three.cover();
            Check.hand("2: cover of three", three, 11, 2);
        }
    }

    private static LettersByLot filled() {
        LettersByLot lots = new LettersByLot();
        lots.source(2, 3, 1, 0, 0);
        for (int slot = 0; slot < 8; slot++) {
            lots.word(slot, 5, slot);
        }
        lots.draw(1, 300);
        lots.wait(0, 0);
        return lots;
    }

    private static void nothingIsLeft(LettersByLot lots) {
        for (int slot = 0; slot < 8; slot++) {
            Check.due("2: tell behind a source", lots.tell(slot, 0), -1);
            Check.due("2: letter 0 behind a source", lots.tell(slot, 2), -1);
            Check.due("2: drop behind a source", lots.drop(slot), false);
            Check.due("2: came behind a source", lots.came(slot, 1), -1);
        }
        Check.due("2: letter(0) behind a source", lots.letter(0), -1);
        Check.due("2: letter(299) behind a source", lots.letter(299), -1);
        // Only WORDS and TEXT are named, so the fraction stays: 1024 / 243 and what laps.
        Check.hand("2: a source", lots, 3124, 243);
        Check.due("2: add behind a source", lots.add(0), 1);
    }

    /** "Another SOURCE leaves no WORDS and an empty TEXT." */
    private static void anotherSourceLeavesNoWordsAndNoText() {
        LettersByLot lots = filled();
        Check.due("2: another source", lots.source(4, 1, 1, 1, 1), 4);
        nothingIsLeft(lots);
        Check.due("2: never of all slots", lots.never(255, 3), 64);
        Check.due("2: a word of the new letters", lots.word(0, 1, 3), true);
        Check.due("2: the empty text has it not", lots.came(0, 1), 0);
    }

    /** The same sentence, told the numbers that it has already. */
    private static void theSameSourceIsAnotherOne() {
        LettersByLot lots = filled();
        Check.due("2: the same source", lots.source(2, 3, 1, 0, 0), 4);
        nothingIsLeft(lots);
    }

    /** "the CODE is not 0 .. q to the power of n, less 1" */
    private static void codesFromNoughtUpToThePower() {
        for (int q = 2; q <= 4; q++) {
            LettersByLot lots = new LettersByLot();
            lots.source(q, 1, 1, 1, 1);
            int power = 1;
            for (int n = 1; n <= 5; n++) {
                power *= q;
                String of = "3: q " + q + ", n " + n + ", ";
                Check.due(of + "code 0", lots.word(7, n, 0), true);
                Check.due(of + "first letter of code 0", lots.tell(7, 2), 0);
                Check.due(of + "code 1", lots.word(7, n, 1), true);
                Check.due(of + "last letter of code 1", lots.tell(7, n + 1), 1);
                Check.due(of + "the highest letter", lots.word(7, n, power / q), true);
                Check.due(of + "it is the first one", lots.tell(7, 2), 1);
                Check.due(of + "greatest code", lots.word(7, n, power - 1), true);
                for (int i = 0; i < n; i++) {
                    Check.due(of + "letter of the greatest code", lots.tell(7, 2 + i), q - 1);
                }
                for (int code : new int[] {power, power + 1, -1, -power, LEAST, GREATEST}) {
                    Check.due(of + "code " + code, lots.word(7, n, code), false);
                }
                Check.due(of + "length stays", lots.tell(7, 0), n);
                Check.due(of + "code stays", lots.tell(7, 1), power - 1);
            }
        }
    }

    /** "have 1 to 5 letters"; "another n" */
    private static void wordsOfOneToFiveLetters() {
        for (int q = 2; q <= 4; q++) {
            LettersByLot lots = new LettersByLot();
            lots.source(q, 1, 1, 1, 1);
            // At 16 and 32 letters the power of q wraps around to 0.
            for (int n : new int[] {LEAST, -32, -5, -1, 0, 6, 7, 10, 15, 16, 31, 32, 33, 64, GREATEST}) {
                Check.due("3: n " + n, lots.word(0, n, 0), false);
                Check.due("3: n " + n + ", code 1", lots.word(0, n, 1), false);
                Check.due("3: n " + n + ", no word", lots.tell(0, 0), -1);
            }
            for (int n = 1; n <= 5; n++) {
                Check.due("3: n " + n, lots.word(0, n, 1), true);
                Check.due("3: n told", lots.tell(0, 0), n);
            }
        }
    }

    /** "in SLOTS 0 .. 7"; "no such SLOT" */
    private static void slotsNoughtToSeven() {
        LettersByLot lots = new LettersByLot();
        for (int slot = 0; slot < 8; slot++) {
            Check.due("3: slot " + slot, lots.word(slot, 4, slot + 1), true);
        }
        for (int slot : NO_SLOTS) {
            Check.due("3: word of slot " + slot, lots.word(slot, 4, 0), false);
            Check.due("4: drop of slot " + slot, lots.drop(slot), false);
            Check.due("5: tell of slot " + slot, lots.tell(slot, 0), -1);
        }
        for (int slot = 0; slot < 8; slot++) {
            Check.due("3: each slot has its own", lots.tell(slot, 1), slot + 1);
            Check.due("3: each slot has its length", lots.tell(slot, 0), 4);
        }
    }

    /** "A WORD of n letters by its CODE: true", of a SLOT that has a WORD. */
    private static void aWordTakesTheOldOnesPlace() {
        LettersByLot lots = new LettersByLot();
        lots.word(0, 5, 0b11111);
        Check.due("3: a shorter one", lots.word(0, 1, 0), true);
        Check.due("3: its length", lots.tell(0, 0), 1);
        Check.due("3: its code", lots.tell(0, 1), 0);
        Check.due("3: its letter", lots.tell(0, 2), 0);
        Check.due("3: none behind it", lots.tell(0, 3), -1);
        Check.due("3: its laps", lots.laps(0, 0), 1);
        Check.held("3: its mean", lots.wait(0, 0), lots, 2, 1);
        Check.due("3: a longer one", lots.word(0, 5, 0b00001), true);
        Check.due("3: laps of the longer one", lots.laps(0, 0), 0b10000);
        Check.held("3: mean of the longer one", lots.wait(0, 0), lots, 32, 1);
        Check.due("3: the same once more", lots.word(0, 5, 0b00001), true);
        Check.held("3: its mean once more", lots.wait(0, 0), lots, 32, 1);
    }

    /** "false if it had none, or there is no such SLOT" */
    private static void dropOfNoneThere() {
        LettersByLot lots = new LettersByLot();
        for (int slot = 0; slot < 8; slot++) {
            Check.due("4: none there yet", lots.drop(slot), false);
            lots.word(slot, 5, 31);
        }
        for (int slot = 7; slot >= 0; slot--) {
            Check.due("4: drop of slot " + slot, lots.drop(slot), true);
            Check.due("4: once more", lots.drop(slot), false);
            Check.due("4: no length", lots.tell(slot, 0), -1);
            Check.due("4: no code", lots.tell(slot, 1), -1);
            Check.due("4: no letter", lots.tell(slot, 2), -1);
            Check.due("4: the next one stays", slot == 0 || lots.tell(slot - 1, 0) == 5, true);
        }
        for (int slot : NO_SLOTS) {
            Check.due("4: no slot " + slot, lots.drop(slot), false);
        }
        lots.word(3, 2, 2);
        Check.due("4: a word where one was dropped", lots.tell(3, 1), 2);
    }

    /** "2 and more: letter what - 2. NONE if there is none such." */
    private static void tellsUpToTheLastLetter() {
        LettersByLot lots = new LettersByLot();
        lots.source(3, 1, 1, 1, 0);
        int[] letters = {2, 0, 1, 2, 1};
        int code = 0;
        for (int n = 1; n <= 5; n++) {
            code = code * 3 + letters[n - 1];
            lots.word(n, n, code);
            Check.due("5: letters", lots.tell(n, 0), n);
            Check.due("5: code", lots.tell(n, 1), code);
            for (int i = 0; i < n; i++) {
                Check.due("5: letter " + i + " of " + n, lots.tell(n, i + 2), letters[i]);
            }
            // What less 2 wraps around from the least int to the greatest one.
            for (int what : new int[] {n + 2, n + 3, 7, 8, 32, GREATEST, -1, -2, LEAST, LEAST + 1, LEAST + 2}) {
                Check.due("5: what " + what + " of " + n, lots.tell(n, what), -1);
            }
        }
        for (int what : new int[] {-1, 0, 1, 2, 6, LEAST, GREATEST}) {
            Check.due("5: no word, what " + what, lots.tell(0, what), -1);
            Check.due("5: no slot, what " + what, lots.tell(8, what), -1);
        }
    }

    /** "a length k, 1 up to the lesser one's" */
    private static void lapsUpToTheLesserLength() {
        LettersByLot lots = new LettersByLot();
        for (int n = 1; n <= 5; n++) {
            lots.word(n, n, 0);
        }
        for (int a = 1; a <= 5; a++) {
            for (int b = 1; b <= 5; b++) {
                Check.due("6: " + a + " on " + b, lots.laps(a, b), (1 << Math.min(a, b)) - 1);
            }
        }
        lots.word(0, 1, 1);
        Check.due("6: no lap of 1 on 0", lots.laps(0, 1), 0);
        Check.due("6: no lap of 1 on 00000", lots.laps(0, 5), 0);
        lots.word(6, 2, 0b01);
        lots.word(7, 5, 0b01101);
        Check.due("6: all of 01 on 01101", lots.laps(6, 7), 0b10);
        Check.due("6: 01101 on all of 01", lots.laps(7, 6), 0b10);
        Check.due("6: the length alone", lots.laps(6, 6), 0b10);
        lots.word(6, 4, 0b0110);
        Check.due("6: 01101 on 0110", lots.laps(7, 6), 0b10);
        Check.due("6: 0110 on 01101", lots.laps(6, 7), 0b1001);
    }

    /** "NONE: one has none." */
    private static void lapsOfWhatHasNone() {
        LettersByLot lots = new LettersByLot();
        lots.word(0, 1, 0);
        for (int slot : NO_SLOTS) {
            Check.due("6: a no slot", lots.laps(slot, 0), -1);
            Check.due("6: b no slot", lots.laps(0, slot), -1);
            Check.due("6: both no slot", lots.laps(slot, slot), -1);
        }
        for (int slot = 1; slot < 8; slot++) {
            Check.due("6: a has none", lots.laps(slot, 0), -1);
            Check.due("6: b has none", lots.laps(0, slot), -1);
            Check.due("6: both have none", lots.laps(slot, slot), -1);
        }
        lots.word(1, 1, 1);
        Check.due("6: no laps are not none", lots.laps(0, 1), 0);
        lots.drop(1);
        Check.due("6: none any more", lots.laps(0, 1), -1);
    }

    /** "(also if both are the same)" */
    private static void withinAlsoIfBothAreTheSame() {
        LettersByLot lots = new LettersByLot();
        for (int n = 1; n <= 5; n++) {
            lots.word(0, n, 1);
            lots.word(7, n, 1);
            Check.due("7: itself, n " + n, lots.within(0, 0), true);
            Check.due("7: the same in two slots, n " + n, lots.within(0, 7), true);
            Check.due("7: the same the other way, n " + n, lots.within(7, 0), true);
            lots.word(7, n, 0);
            Check.due("7: another one as long, n " + n, lots.within(7, 0), false);
        }
    }

    /** "if its letters stand there one behind the other" */
    private static void withinOneBehindTheOther() {
        LettersByLot lots = new LettersByLot();
        lots.word(0, 5, 0b10100);
        lots.word(1, 2, 0b11);
        Check.due("7: 11 in 10100, a letter between", lots.within(1, 0), false);
        lots.word(1, 3, 0b101);
        Check.due("7: at the start", lots.within(1, 0), true);
        lots.word(1, 3, 0b100);
        Check.due("7: at the end", lots.within(1, 0), true);
        lots.word(1, 3, 0b010);
        Check.due("7: amid", lots.within(1, 0), true);
        lots.word(1, 3, 0b000);
        Check.due("7: beyond the end", lots.within(1, 0), false);
        lots.word(1, 4, 0b0100);
        Check.due("7: four at the end", lots.within(1, 0), true);
        Check.due("7: the longer one in the shorter one", lots.within(0, 1), false);
        lots.word(1, 1, 1);
        Check.due("7: one letter", lots.within(1, 0), true);
        lots.word(0, 5, 0b00001);
        Check.due("7: one letter, the last one", lots.within(1, 0), true);
        lots.word(0, 5, 0b00000);
        Check.due("7: one letter that is not there", lots.within(1, 0), false);
    }

    /** "False, too, if one has none." */
    private static void withinOfWhatHasNone() {
        LettersByLot lots = new LettersByLot();
        lots.word(0, 1, 0);
        for (int slot : NO_SLOTS) {
            Check.due("7: a no slot", lots.within(slot, 0), false);
            Check.due("7: b no slot", lots.within(0, slot), false);
            Check.due("7: both no slot", lots.within(slot, slot), false);
        }
        for (int slot = 1; slot < 8; slot++) {
            Check.due("7: a has none", lots.within(slot, 0), false);
            Check.due("7: b has none", lots.within(0, slot), false);
            Check.due("7: both have none", lots.within(slot, slot), false);
        }
    }
}
