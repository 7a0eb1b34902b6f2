/** Promises 20 to 23. */
public final class TextsTest {
    private static final int LEAST = Integer.MIN_VALUE;
    private static final int GREATEST = Integer.MAX_VALUE;

    public static void main(String[] args) {
        drawn();
        refusedDraws();
        added();
        came();
        Check.end();
    }

    private static void drawn() {
        int[][] sources = {{2, 1, 1, 0, 0}, {2, 3, 1, 0, 0}, {3, 1, 2, 1, 0}, {3, 1, 1, 1, 0}, {4, 1, 1, 1, 1}};
        for (int[] s : sources) {
            for (int seed : new int[] {0, 1, -1, 42, LEAST, GREATEST}) {
                LettersByLot lots = new LettersByLot();
                Model model = new Model();
                lots.source(s[0], s[1], s[2], s[3], s[4]);
                model.source(s[0], s[1], s[2], s[3], s[4]);
                Check.due("20: seed behind " + seed, lots.draw(seed, 300), model.draw(seed, 300));
                for (int i = 0; i <= 300; i++) {
                    Check.due("22: letter(" + i + ")", lots.letter(i), model.letter(i));
                }
            }
        }
        LettersByLot lots = new LettersByLot();
        // 12345; then -1492899873 is told by the shared runs for three letters of the seed 0.
        Check.due("20: one letter of the seed 0", lots.draw(0, 1), 12345);
        Check.due("20: three letters of the seed 0", lots.draw(0, 3), -1492899873);
        Check.due("22: three and no more", lots.letter(3), -1);
        Check.due("20: no letters", lots.draw(-77, 0), -77);
        Check.due("22: none", lots.letter(0), -1);
    }

    private static void refusedDraws() {
        LettersByLot lots = new LettersByLot();
        lots.add(1);
        lots.add(0);
        for (int n : new int[] {-1, 301, LEAST, GREATEST}) {
            Check.due("20: draw(9, " + n + ")", lots.draw(9, n), 0);
            Check.due("20: it stays", lots.letter(0), 1);
            Check.due("20: it stays as long", lots.letter(2), -1);
        }
        Check.due("20: add behind it", lots.add(1), 3);
    }

    private static void added() {
        LettersByLot lots = new LettersByLot();
        lots.source(3, 1, 1, 1, 0);
        for (int i = 0; i < 298; i++) {
            lots.add(i % 3);
        }
        Check.due("21: letter 3 of three", lots.add(3), -1);
        Check.due("21: letter -1", lots.add(-1), -1);
        Check.due("21: letter least", lots.add(LEAST), -1);
        Check.due("21: letter greatest", lots.add(GREATEST), -1);
        Check.due("21: 299", lots.add(2), 299);
        Check.due("21: 300", lots.add(1), 300);
        Check.due("21: 301", lots.add(0), -1);
        Check.due("22: the last one", lots.letter(299), 1);
        Check.due("22: the one ahead of it", lots.letter(298), 2);
        Check.due("22: behind the last one", lots.letter(300), -1);
        Check.due("22: -1", lots.letter(-1), -1);
        Check.due("22: least", lots.letter(LEAST), -1);
        Check.due("22: greatest", lots.letter(GREATEST), -1);
        lots.draw(3, 5);
        Check.due("21: behind what was drawn", lots.add(2), 6);
        Check.due("22: what was added", lots.letter(5), 2);
    }

    private static void came() {
        LettersByLot lots = new LettersByLot();
        lots.word(0, 3, 0b010);
        lots.word(1, 3, 0b111);
        lots.word(2, 1, 1);
        Check.due("23: in the empty text", lots.came(0, 0), -1);
        Check.due("23: places in the empty text", lots.came(0, 1), 0);
        for (int letter : new int[] {0, 0, 1, 0, 1, 0}) {
            lots.add(letter);
        }
        Check.due("23: 010 at 4", lots.came(0, 0), 4);
        Check.due("23: 010 at two places", lots.came(0, 1), 2);
        Check.due("23: 111 did not come", lots.came(1, 0), -1);
        Check.due("23: 111 at no place", lots.came(1, 1), 0);
        Check.due("23: 1 at 3", lots.came(2, 0), 3);
        Check.due("23: 1 at two places", lots.came(2, 1), 2);
        Check.due("23: what 2", lots.came(0, 2), -1);
        Check.due("23: what -1", lots.came(0, -1), -1);
        Check.due("23: what least", lots.came(0, LEAST), -1);
        Check.due("23: no word", lots.came(3, 1), -1);
        Check.due("23: no slot", lots.came(8, 1), -1);
        Check.due("23: slot -1", lots.came(-1, 0), -1);
        wholeTexts();
    }

    private static void wholeTexts() {
        LettersByLot lots = new LettersByLot();
        lots.word(0, 5, 0);
        for (int i = 0; i < 4; i++) {
            lots.add(0);
        }
        Check.due("23: one letter is lacking", lots.came(0, 0), -1);
        lots.add(0);
        Check.due("23: with the last letter", lots.came(0, 0), 5);
        for (int i = 5; i < 300; i++) {
            lots.add(0);
        }
        Check.due("23: 296 places", lots.came(0, 1), 296);
        lots.draw(0, 3);
        Check.due("23: letters of the text that was there", lots.came(0, 0), -1);
    }
}
