import java.util.Random;

/** Promises 1 to 23: runs of calls by chance, good ones and wrong ones, each answered by the class and by the model. */
public final class ModelTest {
    private static final int RUNS = 220;
    /** The document promises nothing behind an object's 512th call. */
    private static final int MOST_CALLS = 512;
    /** A new source, the words that are told and spelt behind it, and the fraction. */
    private static final int CALLS_OF_A_STEP = 1 + 8 + 8 + 2;
    private static final int[] EXTREMES = {
        Integer.MIN_VALUE, Integer.MIN_VALUE + 1, -256, -9, -2, -1, 0, 1, 2, 7, 8, 9, 31, 32, 33, 255, 256, 299, 300, 301,
        1 << 30, Integer.MAX_VALUE - 1, Integer.MAX_VALUE};
    private static final int[][] SOURCES = {
        {2, 1, 1, 0, 0}, {2, 2, 2, 0, 0}, {2, 1, 2, 0, 0}, {2, 2, 1, 9, 9}, {2, 1, 3, 0, 0}, {2, 3, 1, -1, -1},
        {3, 1, 1, 1, 0}, {3, 2, 1, 1, 7}, {3, 1, 2, 1, 0}, {3, 1, 1, 2, 0}, {4, 1, 1, 1, 1}};

    private final Random random;
    private final Model model = new Model();
    private final LettersByLot lots = new LettersByLot();
    private int letters = 2;
    private int calls = 0;

    private ModelTest(int seed) {
        random = new Random(seed);
    }

    public static void main(String[] args) {
        for (int run = 0; run < RUNS; run++) {
            new ModelTest(run).run(run);
        }
        Check.end();
    }

    private void run(int run) {
        setUp(SOURCES[run % SOURCES.length]);
        while (calls + CALLS_OF_A_STEP <= MOST_CALLS) {
            String told = "run " + run + ", call " + calls + ": ";
            ask(told);
            calls += 3;
            Check.due(told + "top()", lots.top(), model.top());
            Check.due(told + "bottom()", lots.bottom(), model.bottom());
        }
    }

    private void setUp(int[] s) {
        letters = s[0];
        Check.due("source", lots.source(s[0], s[1], s[2], s[3], s[4]), model.source(s[0], s[1], s[2], s[3], s[4]));
        for (int slot = 0; slot < 8; slot++) {
            spell("at first: ", slot);
        }
        int seed = random.nextInt();
        Check.due("draw", lots.draw(seed, 100), model.draw(seed, 100));
        calls = 1 + 8 + 1;
    }

    private int wild() {
        return EXTREMES[random.nextInt(EXTREMES.length)];
    }

    private boolean rarely() {
        return random.nextInt(12) == 0;
    }

    private int slot() {
        return rarely() ? wild() : random.nextInt(8);
    }

    private int below(int bound) {
        return rarely() ? wild() : random.nextInt(bound);
    }

    private void spell(String told, int slot) {
        int n = rarely() ? wild() : 1 + random.nextInt(5);
        int codes = (int) Math.pow(letters, Math.max(1, Math.min(n, 5)));
        int code = rarely() ? (random.nextBoolean() ? codes : wild()) : random.nextInt(codes);
        Check.due(told + "word(" + slot + ", " + n + ", " + code + ")", lots.word(slot, n, code), model.word(slot, n, code));
    }

    private void resource(String told) {
        int[] s = SOURCES[random.nextInt(SOURCES.length)];
        if (random.nextBoolean()) {
            s = new int[] {below(6), below(4), below(4), below(4), below(4)};
        }
        int due = model.source(s[0], s[1], s[2], s[3], s[4]);
        Check.due(told + "source(" + java.util.Arrays.toString(s) + ")", lots.source(s[0], s[1], s[2], s[3], s[4]), due);
        if (due != Model.NONE) {
            letters = s[0];
            calls += 8 + 8;
            for (int slot = 0; slot < 8; slot++) {
                Check.due(told + "tell", lots.tell(slot, 0), model.tell(slot, 0));
                spell(told, slot);
            }
        }
    }

    private void ask(String told) {
        int a = slot();
        int b = slot();
        String of = "(" + a + ", " + b + ")";
        switch (random.nextInt(20)) {
            case 0 -> spell(told, a);
            case 1 -> {
                if (random.nextInt(4) == 0) {
                    Check.due(told + "drop(" + a + ")", lots.drop(a), model.drop(a));
                } else {
                    spell(told, random.nextInt(8));
                }
            }
            case 2 -> {
                int what = below(8);
                Check.due(told + "tell(" + a + ", " + what + ")", lots.tell(a, what), model.tell(a, what));
            }
            case 3 -> Check.due(told + "laps" + of, lots.laps(a, b), model.laps(a, b));
            case 4 -> Check.due(told + "within" + of, lots.within(a, b), model.within(a, b));
            case 5 -> Check.due(told + "lead" + of, lots.lead(a, b), model.lead(a, b));
            case 6 -> {
                int what = below(3);
                Check.due(told + "wait(" + a + ", " + what + ")", lots.wait(a, what), model.wait(a, what));
            }
            case 7, 8, 9 -> {
                int list = rarely() ? wild() : 1 << random.nextInt(8) | 1 << random.nextInt(8) | 1 << random.nextInt(8);
                int slot = random.nextInt(4) == 0 ? Model.NONE
                        : random.nextInt(4) == 0 ? a : Integer.numberOfTrailingZeros(list);
                Check.due(told + "first(" + list + ", " + slot + ")", lots.first(list, slot), model.first(list, slot));
            }
            case 10 -> Check.due(told + "odds" + of, lots.odds(a, b), model.odds(a, b));
            case 11 -> {
                // The model's way to BEST is too slow for the longest WORDS of many letters.
                int length = model.tell(a, 0);
                if (Math.pow(letters, length) <= 90) {
                    Check.due(told + "best(" + a + ")", lots.best(a), model.best(a));
                }
            }
            case 12 -> {
                model.cover();
                lots.cover();
            }
            case 13 -> Check.due(told + "won(" + a + ")", lots.won(a), model.won(a));
            case 14 -> askTimes(told, a);
            case 15 -> askNever(told);
            case 16 -> {
                int n = below(31);
                Check.due(told + "covered(" + n + ")", lots.covered(n), model.covered(n));
            }
            case 17 -> askText(told);
            case 18 -> {
                int what = below(3);
                Check.due(told + "came(" + a + ", " + what + ")", lots.came(a, what), model.came(a, what));
            }
            default -> {
                if (random.nextInt(5) == 0) {
                    resource(told);
                } else {
                    askText(told);
                }
            }
        }
    }

    private void askTimes(String told, int slot) {
        int n = rarely() ? wild() : random.nextInt(10);
        int k = below(6);
        boolean just = random.nextBoolean();
        Check.due(told + "times(" + slot + ", " + n + ", " + k + ", " + just + ")",
                lots.times(slot, n, k, just), model.times(slot, n, k, just));
    }

    private void askNever(String told) {
        int set = rarely() ? wild() : random.nextInt(256) & random.nextInt(256);
        int n = rarely() ? wild() : random.nextInt(12);
        Check.due(told + "never(" + set + ", " + n + ")", lots.never(set, n), model.never(set, n));
    }

    private void askText(String told) {
        int letter = below(5);
        switch (random.nextInt(4)) {
            case 0 -> {
                int seed = rarely() ? wild() : random.nextInt();
                int n = rarely() ? wild() : random.nextInt(40);
                Check.due(told + "draw(" + seed + ", " + n + ")", lots.draw(seed, n), model.draw(seed, n));
            }
            case 1 -> {
                int i = below(40);
                Check.due(told + "letter(" + i + ")", lots.letter(i), model.letter(i));
            }
            default -> Check.due(told + "add(" + letter + ")", lots.add(letter), model.add(letter));
        }
    }
}
