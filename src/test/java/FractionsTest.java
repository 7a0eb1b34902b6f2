/** Promises 8 to 16. */
public final class FractionsTest {
    private static final int LEAST = Integer.MIN_VALUE;
    private static final int GREATEST = Integer.MAX_VALUE;

    public static void main(String[] args) {
        leads();
        waits();
        firsts();
        listsThatAreNone();
        odds();
        bests();
        covers();
        wins();
        refusalsLeaveWhatWasAtHand();
        Check.end();
    }

    private static void leads() {
        LettersByLot lots = new LettersByLot();
        lots.source(2, 3, 1, 0, 0);
        lots.word(0, 3, 0b010);
        lots.word(1, 5, 0b00000);
        lots.word(2, 2, 0b11);
        Check.held("8: 010 on itself", lots.lead(0, 0), lots, 4 * 3 + 64, 9);
        Check.held("8: 010 on 00000", lots.lead(0, 1), lots, 4, 3);
        Check.held("8: 00000 on 010", lots.lead(1, 0), lots, 4, 3);
        Check.held("8: 11 on 00000", lots.lead(2, 1), lots, 0, 1);
        Check.held("8: 00000 on itself", lots.lead(1, 1), lots, 3124, 243);
        Check.held("8: 11 on itself", lots.lead(2, 2), lots, 20, 1);
        Check.due("8: a has none", lots.lead(3, 0), false);
        Check.due("8: b has none", lots.lead(0, 3), false);
        Check.due("8: no slot", lots.lead(-1, 0), false);
        Check.due("8: no slot either", lots.lead(0, GREATEST), false);
        Check.hand("8: refusals", lots, 20, 1);
    }

    private static void waits() {
        LettersByLot lots = new LettersByLot();
        lots.word(0, 2, 0b01);
        lots.word(1, 2, 0b11);
        lots.word(2, 5, 0b11111);
        Check.held("9: mean of 01", lots.wait(0, 0), lots, 4, 1);
        Check.held("9: spread of 01", lots.wait(0, 1), lots, 4, 1);
        Check.held("9: mean of 11", lots.wait(1, 0), lots, 6, 1);
        Check.held("9: spread of 11", lots.wait(1, 1), lots, 22, 1);
        Check.held("9: mean of 11111", lots.wait(2, 0), lots, 62, 1);
        Check.held("9: spread of 11111", lots.wait(2, 1), lots, 62 * 62 - (2 + 12 + 40 + 112 + 288), 1);
        Check.due("9: what 2", lots.wait(0, 2), false);
        Check.due("9: what -1", lots.wait(0, -1), false);
        Check.due("9: what least", lots.wait(0, LEAST), false);
        Check.due("9: no word", lots.wait(3, 0), false);
        Check.due("9: no slot", lots.wait(8, 1), false);
        Check.hand("9: refusals", lots, 3390, 1);
        lots.source(2, 1, 2, 0, 0);
        lots.word(0, 1, 1);
        Check.held("9: mean of a likely letter", lots.wait(0, 0), lots, 3, 2);
        Check.held("9: spread of a likely letter", lots.wait(0, 1), lots, 3, 4);
        lots.source(4, 1, 1, 1, 1);
        lots.word(0, 5, 1023);
        Check.held("9: mean of 33333", lots.wait(0, 0), lots, 1364, 1);
        Check.held("9: spread of 33333", lots.wait(0, 1), lots, 1364 * 1364 - (4 + 48 + 320 + 1792 + 9216), 1);
    }

    private static void firsts() {
        LettersByLot lots = new LettersByLot();
        lots.word(2, 3, 0b110);
        lots.word(5, 3, 0b011);
        lots.word(7, 4, 0b0000);
        Check.held("10: one alone", lots.first(1 << 2, 2), lots, 1, 1);
        Check.held("10: the mean of one alone", lots.first(1 << 7, -1), lots, 30, 1);
        Check.held("10: 110 of two", lots.first(1 << 2 | 1 << 5, 2), lots, 1, 4);
        Check.held("10: 011 of two", lots.first(1 << 2 | 1 << 5, 5), lots, 3, 4);
        Check.held("10: the mean of two", lots.first(1 << 2 | 1 << 5, -1), lots, 13, 2);
        Model model = new Model();
        model.word(2, 3, 0b110);
        model.word(5, 3, 0b011);
        model.word(7, 4, 0b0000);
        int list = 1 << 2 | 1 << 5 | 1 << 7;
        for (int slot : new int[] {2, 5, 7, -1}) {
            model.first(list, slot);
            Check.held("10: of three, " + slot, lots.first(list, slot), lots, model.top(), model.bottom());
        }
        lots.source(3, 1, 2, 1, 0);
        lots.word(0, 1, 0);
        lots.word(1, 1, 1);
        lots.word(2, 1, 2);
        Check.held("10: the mean of all letters", lots.first(7, -1), lots, 1, 1);
        Check.held("10: of all letters", lots.first(7, 1), lots, 1, 2);
        Check.held("10: of two letters", lots.first(6, 2), lots, 1, 3);
    }

    private static void listsThatAreNone() {
        LettersByLot lots = new LettersByLot();
        lots.word(0, 3, 0b000);
        lots.word(1, 3, 0b001);
        lots.word(2, 3, 0b010);
        lots.word(3, 3, 0b011);
        lots.word(4, 2, 0b11);
        lots.word(5, 3, 0b000);
        lots.wait(0, 0);
        Check.due("10: none", lots.first(0, -1), false);
        Check.due("10: four", lots.first(0b1111, -1), false);
        Check.due("10: a slot without a word", lots.first(0b1000001, 0), false);
        Check.due("10: 11 in 011", lots.first(0b11000, 3), false);
        Check.due("10: 11 in 011, of three", lots.first(0b11001, 0), false);
        Check.due("10: twice the same", lots.first(0b100001, 0), false);
        Check.due("10: a bit beyond the slots", lots.first(0b100000001, 0), false);
        Check.due("10: the bit of the sign", lots.first(LEAST | 1, 0), false);
        Check.due("10: the bit of the sign alone", lots.first(LEAST, -1), false);
        Check.due("10: all bits", lots.first(-1, -1), false);
        Check.due("10: the slot is not in it", lots.first(3, 2), false);
        Check.due("10: slot 8", lots.first(3, 8), false);
        Check.due("10: slot 32", lots.first(3, 32), false);
        Check.due("10: slot -2", lots.first(3, -2), false);
        Check.due("10: slot least", lots.first(3, LEAST), false);
        Check.hand("10: refusals", lots, 14, 1);
        Check.due("10: three", lots.first(0b0111, -1), true);
    }

    private static void odds() {
        LettersByLot lots = new LettersByLot();
        lots.word(0, 4, 0b0100);
        lots.word(1, 4, 0b1010);
        lots.word(2, 2, 0b10);
        lots.word(3, 4, 0b0100);
        lots.word(4, 3, 0b101);
        // 1010 has the longer MEAN, 20 to 18, and yet comes ahead.
        Check.held("11: 0100 ahead of 1010", lots.odds(0, 1), lots, 5, 9);
        Check.held("11: 0100 ahead of 101", lots.odds(0, 4), lots, 1, 3);
        Check.held("11: 1010 ahead of 0100", lots.odds(1, 0), lots, 9, 5);
        Check.due("11: itself", lots.odds(0, 0), false);
        Check.due("11: the same in another slot", lots.odds(0, 3), false);
        Check.due("11: 10 in 1010", lots.odds(1, 2), false);
        Check.due("11: 10 in 1010, the other way", lots.odds(2, 1), false);
        Check.due("11: a has none", lots.odds(7, 0), false);
        Check.due("11: b has none", lots.odds(0, 7), false);
        Check.due("11: no slot", lots.odds(0, 8), false);
        Check.due("11: slot least", lots.odds(LEAST, 0), false);
        Check.hand("11: refusals", lots, 9, 5);
        lots.source(2, 3, 1, 0, 0);
        lots.word(0, 2, 0b00);
        lots.word(1, 2, 0b11);
        // 00: 28 / 9, 11: 20, no LAP between them.
        Check.held("11: 00 ahead of 11", lots.odds(0, 1), lots, 45, 7);
        lots.word(1, 2, 0b10);
        // 10 comes ahead unless the first two letters are 00: 7 to 9.
        Check.held("11: 10 ahead of 00", lots.odds(1, 0), lots, 7, 9);
    }

    private static void bests() {
        LettersByLot lots = new LettersByLot();
        // Penney's game.
        int[] answers = {0b100, 0b100, 0b001, 0b001, 0b110, 0b110, 0b011, 0b011};
        int[][] chances = {{7, 8}, {3, 4}, {2, 3}, {2, 3}, {2, 3}, {2, 3}, {3, 4}, {7, 8}};
        for (int code = 0; code < 8; code++) {
            lots.word(1, 3, code);
            Check.due("12: best to " + code, lots.best(1), answers[code]);
            Check.hand("12: best to " + code, lots, chances[code][0], chances[code][1]);
        }
        lots.source(2, 2, 2, 0, 0);
        lots.word(1, 3, 0b010);
        Check.due("12: weights alike above 1", lots.best(1), 0b001);
        Check.hand("12: weights alike above 1", lots, 2, 3);
        longBests();
        lots.wait(1, 0);
        lots.word(2, 2, 0b01);
        Check.due("12: two letters", lots.best(2), -1);
        Check.due("12: no word", lots.best(0), -1);
        Check.due("12: no slot", lots.best(8), -1);
        Check.due("12: slot -1", lots.best(-1), -1);
        Check.hand("12: refusals", lots, 10, 1);
        lots.source(3, 1, 1, 2, 0);
        lots.word(1, 3, 0);
        Check.due("12: not even, of three", lots.best(1), -1);
        lots.source(3, 2, 1, 1, 0);
        lots.word(1, 5, 0);
        Check.due("12: not even in the first letter", lots.best(1), -1);
        Check.hand("12: not even", lots, 10, 1);
    }

    private static void longBests() {
        int[][] sources = {{2, 1}, {3, 1}, {4, 1}};
        int[][] codes = {{0, 1, 9, 10, 21, 30, 31}, {0, 91, 121, 182, 200}, {0, 341, 273}};
        for (int i = 0; i < sources.length; i++) {
            int q = sources[i][0];
            LettersByLot lots = new LettersByLot();
            Model model = new Model();
            lots.source(q, 1, 1, 1, 1);
            model.source(q, 1, 1, 1, 1);
            for (int code : codes[i]) {
                lots.word(0, 5, code);
                model.word(0, 5, code);
                Check.due("12: best to " + code + " of five letters", lots.best(0), model.best(0));
                Check.hand("12: best of five letters", lots, model.top(), model.bottom());
            }
        }
    }

    private static void covers() {
        LettersByLot lots = new LettersByLot();
        lots.cover();
        Check.hand("13: 1 1", lots, 3, 1);
        lots.source(2, 1, 2, 9, 9);
        lots.cover();
        Check.hand("13: 1 2", lots, 7, 2);
        lots.source(2, 2, 2, 0, 0);
        lots.cover();
        Check.hand("13: 2 2", lots, 3, 1);
        lots.source(3, 1, 1, 1, 0);
        lots.cover();
        Check.hand("13: 1 1 1", lots, 11, 2);
        lots.source(3, 1, 2, 1, 0);
        lots.cover();
        Check.hand("13: 1 2 1", lots, 19, 3);
        lots.source(4, 1, 1, 1, 1);
        lots.cover();
        Check.hand("13: 1 1 1 1", lots, 25, 3);
    }

    private static void wins() {
        LettersByLot lots = new LettersByLot();
        lots.source(2, 1, 3, 0, 0);
        lots.word(0, 3, 0b101);
        lots.word(1, 3, 0b110);
        Check.due("14: of an empty text", lots.won(0), false);
        for (int letter : new int[] {1, 0, 0, 1, 0, 1, 0, 1}) {
            lots.add(letter);
        }
        Check.held("14: 101 at 6", lots.won(0), lots, 4 * 4 * 4 + 4 * 3, 9);
        Check.due("14: 110 did not come", lots.won(1), false);
        Check.due("14: no word", lots.won(2), false);
        Check.due("14: no slot", lots.won(-1), false);
        Check.hand("14: refusals", lots, 76, 9);
        lots.add(1);
        lots.add(0);
        Check.held("14: 110 at 10", lots.won(1), lots, 64, 9);
        lots.draw(5, 0);
        Check.due("14: of an empty text again", lots.won(1), false);
    }

    private static void refusalsLeaveWhatWasAtHand() {
        LettersByLot lots = new LettersByLot();
        lots.lead(0, 0);
        lots.wait(0, 0);
        lots.first(1, 0);
        lots.odds(0, 1);
        lots.best(0);
        lots.won(0);
        Check.hand("15, 16: refusals alone", lots, 0, 1);
        lots.source(2, 1, 2, 0, 0);
        lots.cover();
        lots.word(0, 2, 1);
        lots.laps(0, 0);
        lots.times(0, 5, 1, true);
        lots.never(1, 5);
        lots.covered(5);
        lots.draw(1, 20);
        lots.came(0, 0);
        lots.drop(0);
        Check.hand("15, 16: calls that put none at hand", lots, 7, 2);
        lots.source(3, 1, 1, 1, 1);
        Check.hand("15, 16: another source", lots, 7, 2);
        Check.due("15: top() asked again", lots.top(), 7);
        Check.due("16: bottom() asked again", lots.bottom(), 2);
    }
}
