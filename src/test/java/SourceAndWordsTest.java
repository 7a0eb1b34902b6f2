/** Promises 1 to 7. */
public final class SourceAndWordsTest {
    private static final int LEAST = Integer.MIN_VALUE;
    private static final int GREATEST = Integer.MAX_VALUE;

    public static void main(String[] args) {
        newObject();
        sourcesThatCanBe();
        sourcesThatCantBe();
        anotherSourceLeavesNothing();
        refusedSourceChangesNothing();
        words();
        wordsThatAreNone();
        drops();
        tells();
        laps();
        within();
        Check.end();
    }

    private static void newObject() {
        LettersByLot lots = new LettersByLot();
        Check.hand("1: new", lots, 0, 1);
        Check.due("1: letter(0)", lots.letter(0), -1);
        for (int slot = 0; slot < 8; slot++) {
            Check.due("1: tell", lots.tell(slot, 0), -1);
        }
        Check.due("1: never(255, 3)", lots.never(255, 3), 8);
        Check.due("1: add(2)", lots.add(2), -1);
        Check.due("1: word(0, 1, 1)", lots.word(0, 1, 1), true);
        Check.held("1: wait(0, 0)", lots.wait(0, 0), lots, 2, 1);
        Check.due("1: NONE", LettersByLot.NONE, -1);
    }

    private static void sourcesThatCanBe() {
        LettersByLot lots = new LettersByLot();
        Check.due("2: 1 1", lots.source(2, 1, 1, 0, 0), 2);
        Check.due("2: 1 2", lots.source(2, 1, 2, 0, 0), 3);
        Check.due("2: 3 1", lots.source(2, 3, 1, 0, 0), 4);
        Check.due("2: 2 2", lots.source(2, 2, 2, 0, 0), 4);
        Check.due("2: 1 1 1", lots.source(3, 1, 1, 1, 0), 3);
        Check.due("2: 1 2 1", lots.source(3, 1, 2, 1, 0), 4);
        Check.due("2: 1 1 1 1", lots.source(4, 1, 1, 1, 1), 4);
        Check.due("2: beyond q, two", lots.source(2, 1, 1, LEAST, GREATEST), 2);
        Check.due("2: add(2) of two", lots.add(2), -1);
        Check.due("2: beyond q, three", lots.source(3, 2, 1, 1, -5), 4);
        Check.due("2: add(2) of three", lots.add(2), 1);
        Check.due("2: add(3) of three", lots.add(3), -1);
    }

    private static void sourcesThatCantBe() {
        LettersByLot lots = new LettersByLot();
        int[][] wrong = {
            {1, 1, 1, 1, 1}, {0, 1, 1, 1, 1}, {5, 1, 1, 1, 1}, {-2, 1, 1, 1, 1}, {LEAST, 1, 1, 1, 1},
            {GREATEST, 1, 1, 1, 1}, {2, 0, 1, 0, 0}, {2, 1, 0, 0, 0}, {2, -1, 3, 0, 0}, {2, 4, 1, 0, 0}, {2, 2, 3, 0, 0},
            {3, 1, 1, 0, 1}, {3, 2, 2, 1, 0}, {3, 4, 1, -1, 0}, {4, 1, 1, 1, 0}, {4, 1, 1, 2, 1}, {4, 2, 2, 1, -1},
            {2, GREATEST, GREATEST, 0, 0}, {2, LEAST, LEAST, 0, 0}, {2, GREATEST, LEAST, 0, 0}, {2, LEAST + 3, LEAST, 0, 0},
            {4, 1 << 30, 1 << 30, 1 << 30, 1 << 30}, {3, GREATEST, GREATEST, 4, 0}};
        for (int[] s : wrong) {
            Check.due("2: source of " + java.util.Arrays.toString(s), lots.source(s[0], s[1], s[2], s[3], s[4]), -1);
        }
    }

    private static void anotherSourceLeavesNothing() {
        LettersByLot lots = new LettersByLot();
        for (int slot = 0; slot < 8; slot++) {
            lots.word(slot, 1, 0);
        }
        lots.add(1);
        lots.wait(0, 0);
        Check.due("2: the same source", lots.source(2, 1, 1, 0, 0), 2);
        for (int slot = 0; slot < 8; slot++) {
            Check.due("2: tell behind it", lots.tell(slot, 0), -1);
        }
        Check.due("2: letter behind it", lots.letter(0), -1);
        Check.hand("2: source", lots, 2, 1);
        Check.due("2: add behind it", lots.add(0), 1);
    }

    private static void refusedSourceChangesNothing() {
        LettersByLot lots = new LettersByLot();
        lots.source(3, 1, 2, 1, 0);
        lots.word(4, 2, 7);
        lots.add(2);
        Check.due("2: refused", lots.source(2, 1, 4, 0, 0), -1);
        Check.due("2: tell behind a refusal", lots.tell(4, 1), 7);
        Check.due("2: letter behind a refusal", lots.letter(0), 2);
        Check.held("2: wait behind a refusal", lots.wait(4, 0), lots, 8, 1);
    }

    private static void words() {
        LettersByLot lots = new LettersByLot();
        int[] powers = {2, 4, 8, 16, 32};
        for (int n = 1; n <= 5; n++) {
            Check.due("3: greatest code", lots.word(n - 1, n, powers[n - 1] - 1), true);
            Check.due("3: beyond it", lots.word(n - 1, n, powers[n - 1]), false);
            Check.due("3: code told", lots.tell(n - 1, 1), powers[n - 1] - 1);
            Check.due("3: length told", lots.tell(n - 1, 0), n);
        }
        Check.due("3: another word", lots.word(0, 3, 4), true);
        Check.due("3: is told", lots.tell(0, 1), 4);
        lots.source(3, 1, 1, 1, 0);
        Check.due("3: 242 of three letters", lots.word(7, 5, 242), true);
        Check.due("3: 243 of three letters", lots.word(7, 5, 243), false);
        lots.source(4, 1, 1, 1, 1);
        Check.due("3: 1023 of four letters", lots.word(7, 5, 1023), true);
        Check.due("3: 1024 of four letters", lots.word(7, 5, 1024), false);
    }

    private static void wordsThatAreNone() {
        LettersByLot lots = new LettersByLot();
        lots.word(3, 2, 1);
        int[][] wrong = {
            {-1, 2, 0}, {8, 2, 0}, {LEAST, 2, 0}, {GREATEST, 2, 0}, {3, 0, 0}, {3, 6, 0}, {3, -1, 0}, {3, LEAST, 0},
            {3, GREATEST, 0}, {3, 2, -1}, {3, 2, 4}, {3, 2, LEAST}, {3, 2, GREATEST}};
        for (int[] w : wrong) {
            Check.due("3: word of " + java.util.Arrays.toString(w), lots.word(w[0], w[1], w[2]), false);
            Check.due("3: length stays", lots.tell(3, 0), 2);
            Check.due("3: code stays", lots.tell(3, 1), 1);
        }
    }

    private static void drops() {
        LettersByLot lots = new LettersByLot();
        lots.word(0, 1, 0);
        lots.word(7, 1, 0);
        Check.due("4: drop(7)", lots.drop(7), true);
        Check.due("4: drop(7) again", lots.drop(7), false);
        Check.due("4: none there", lots.tell(7, 0), -1);
        Check.due("4: the other one stays", lots.tell(0, 0), 1);
        Check.due("4: drop(-1)", lots.drop(-1), false);
        Check.due("4: drop(8)", lots.drop(8), false);
        Check.due("4: drop of the least int", lots.drop(LEAST), false);
        Check.due("4: drop of the greatest int", lots.drop(GREATEST), false);
        Check.due("4: a word again", lots.word(7, 2, 2), true);
        Check.due("4: drop(7) once more", lots.drop(7), true);
    }

    private static void tells() {
        LettersByLot lots = new LettersByLot();
        lots.source(4, 1, 1, 1, 1);
        lots.word(2, 5, 1 * 256 + 2 * 64 + 3 * 16 + 0 * 4 + 1);
        int[] due = {5, 433, 1, 2, 3, 0, 1, -1, -1};
        for (int what = 0; what < due.length; what++) {
            Check.due("5: tell(2, " + what + ")", lots.tell(2, what), due[what]);
        }
        lots.word(2, 2, 6);
        Check.due("5: last letter of a shorter word", lots.tell(2, 3), 2);
        Check.due("5: behind a shorter word", lots.tell(2, 4), -1);
        Check.due("5: what -1", lots.tell(2, -1), -1);
        Check.due("5: what least", lots.tell(2, LEAST), -1);
        Check.due("5: what greatest", lots.tell(2, GREATEST), -1);
        Check.due("5: no word", lots.tell(3, 0), -1);
        Check.due("5: no slot", lots.tell(8, 0), -1);
        Check.due("5: slot -1", lots.tell(-1, 1), -1);
    }

    private static void laps() {
        LettersByLot lots = new LettersByLot();
        lots.word(0, 5, 0b01010);
        lots.word(1, 3, 0b010);
        lots.word(2, 2, 0b11);
        lots.word(3, 1, 0);
        lots.word(4, 5, 0b11111);
        Check.due("6: 01010 on itself", lots.laps(0, 0), 0b10101);
        Check.due("6: 01010 on 010", lots.laps(0, 1), 0b101);
        Check.due("6: 010 on 01010", lots.laps(1, 0), 0b101);
        Check.due("6: 11 on itself", lots.laps(2, 2), 0b11);
        Check.due("6: 010 on 11", lots.laps(1, 2), 0);
        Check.due("6: 01010 on 0", lots.laps(0, 3), 1);
        Check.due("6: 11111 on itself", lots.laps(4, 4), 0b11111);
        Check.due("6: 11 on 11111", lots.laps(2, 4), 0b11);
        lots.word(0, 3, 0b001);
        lots.word(1, 3, 0b011);
        Check.due("6: 001 on 011", lots.laps(0, 1), 0b010);
        Check.due("6: 011 on 001", lots.laps(1, 0), 0);
        Check.due("6: a has none", lots.laps(6, 0), -1);
        Check.due("6: b has none", lots.laps(0, 6), -1);
        Check.due("6: no slot", lots.laps(0, 8), -1);
        Check.due("6: no slot either", lots.laps(LEAST, 0), -1);
    }

    private static void within() {
        LettersByLot lots = new LettersByLot();
        lots.word(0, 5, 0b01101);
        lots.word(1, 2, 0b01);
        lots.word(2, 2, 0b00);
        lots.word(3, 3, 0b101);
        lots.word(4, 5, 0b01101);
        lots.word(5, 3, 0b110);
        Check.due("7: 01 in 01101", lots.within(1, 0), true);
        Check.due("7: 01101 in 01", lots.within(0, 1), false);
        Check.due("7: 00 in 01101", lots.within(2, 0), false);
        Check.due("7: 101 at the end", lots.within(3, 0), true);
        Check.due("7: 110 amid", lots.within(5, 0), true);
        Check.due("7: the same in two slots", lots.within(0, 4), true);
        Check.due("7: itself", lots.within(0, 0), true);
        Check.due("7: a has none", lots.within(6, 0), false);
        Check.due("7: b has none", lots.within(0, 6), false);
        Check.due("7: both have none", lots.within(6, 6), false);
        Check.due("7: no slots", lots.within(-1, 8), false);
        lots.word(0, 2, 0b01);
        Check.due("7: letters of the word that was there", lots.within(3, 0), false);
    }
}
