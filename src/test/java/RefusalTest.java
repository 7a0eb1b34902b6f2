import java.util.ArrayList;
import java.util.List;

/**
 * "a refused call changes nothing": of two objects with the same calls behind them one is asked what is refused; then
 * all that can be seen of both is the same.
 */
public final class RefusalTest {
    private static final int LEAST = Integer.MIN_VALUE;
    private static final int GREATEST = Integer.MAX_VALUE;
    private static final int[] NO_SLOTS = {LEAST, -8, -1, 8, 32, 256, GREATEST};
    private static final int[] NO_WHATS = {LEAST, -1, 2, GREATEST};
    private static final int[] NO_COUNTED = {LEAST, -1, 31, GREATEST};

    /** A call that is refused, and what it answers. */
    private record Refused(String told, Call call, long due) {
    }

    private interface Call {
        long on(LettersByLot lots);
    }

    private interface Beginning {
        LettersByLot made();
    }

    public static void main(String[] args) {
        List<Refused> always = refusedAlways();
        tryAll("a new object", LettersByLot::new, with(always, refusedWithoutWords()));
        tryAll("a bench half full", RefusalTest::halfFull, with(always, refusedOfTheHalfFull()));
        tryAll("a full bench", RefusalTest::full, with(always, refusedOfTheFull()));
        tryAll("an even bench", RefusalTest::even, with(always, refusedOfTheEven()));
        Check.end();
    }

    private static List<Refused> with(List<Refused> some, List<Refused> more) {
        List<Refused> all = new ArrayList<>(some);
        all.addAll(more);
        return all;
    }

    private static void tryAll(String of, Beginning beginning, List<Refused> calls) {
        List<Long> untouched = seen(beginning.made());
        LettersByLot asked = beginning.made();
        for (Refused refused : calls) {
            LettersByLot lots = beginning.made();
            Check.due(of + ": " + refused.told, refused.call.on(lots), refused.due);
            Check.due(of + " is changed by " + refused.told, seen(lots).equals(untouched), true);
            refused.call.on(asked);
        }
        Check.due("all of them are fewer than an object's calls", calls.size() < 150, true);
        Check.due(of + " is changed by all of them together", seen(asked).equals(untouched), true);
    }

    // ---- objects to begin with

    private static LettersByLot halfFull() {
        LettersByLot lots = new LettersByLot();
        lots.source(3, 1, 2, 1, 0);
        lots.word(0, 5, 122);
        lots.word(2, 2, 4);
        lots.word(3, 3, 9);
        lots.word(7, 1, 2);
        for (int letter : new int[] {0, 1, 2, 0, 1}) {
            lots.add(letter);
        }
        lots.cover();
        return lots;
    }

    private static LettersByLot full() {
        LettersByLot lots = new LettersByLot();
        lots.source(2, 3, 1, 0, 0);
        for (int slot = 0; slot < 8; slot++) {
            lots.word(slot, 5, 3 * slot);
        }
        lots.draw(11, 300);
        lots.wait(4, 1);
        return lots;
    }

    private static LettersByLot even() {
        LettersByLot lots = new LettersByLot();
        lots.source(4, 1, 1, 1, 1);
        lots.word(1, 1, 3);
        lots.word(4, 2, 15);
        lots.word(5, 3, 63);
        lots.draw(3, 40);
        lots.best(5);
        return lots;
    }

    // ---- all that can be seen: within 370 calls

    private static List<Long> seen(LettersByLot lots) {
        List<Long> all = new ArrayList<>();
        all.add(lots.top());
        all.add(lots.bottom());
        for (int slot = 0; slot < 8; slot++) {
            all.add((long) lots.tell(slot, 0));
            all.add((long) lots.tell(slot, 1));
            all.add((long) lots.came(slot, 0));
            all.add(lots.never(1 << slot, 6));
        }
        for (int i = 0; i <= 300; i += 2) {
            all.add((long) lots.letter(i));
        }
        for (int i = 1; i <= 300; i += i < 50 ? 2 : 14) {
            all.add((long) lots.letter(i));
        }
        seenOfFractions(lots, all);
        seenOfTheSource(lots, all);
        return all;
    }

    private static void seenOfFractions(LettersByLot lots, List<Long> all) {
        for (int slot = 0; slot < 8; slot++) {
            lots.wait(slot, 1);
            lots.lead(slot, 7 - slot);
            all.add(lots.top());
            all.add(lots.bottom());
        }
        lots.first(1 << 3 | 1 << 7, -1);
        all.add(lots.top());
        lots.won(7);
        all.add(lots.top());
        lots.cover();
        all.add(lots.top());
        all.add(lots.bottom());
    }

    private static void seenOfTheSource(LettersByLot lots, List<Long> all) {
        all.add(lots.never(0, 30));
        all.add(lots.covered(7));
        for (int letter = 3; letter >= 0; letter--) {
            all.add((long) lots.add(letter));
            all.add(lots.word(0, 1, letter) ? lots.never(1, 1) : -1L);
        }
    }

    // ---- what is refused

    private static long as(boolean answer) {
        return answer ? 1 : 0;
    }

    private static List<Refused> refusedAlways() {
        List<Refused> all = new ArrayList<>();
        int[][] sources = {
            {1, 1, 1, 1, 1}, {5, 1, 1, 1, 1}, {0, 1, 1, 1, 1}, {LEAST, 1, 1, 1, 1}, {GREATEST, 1, 1, 1, 1},
            {2, 0, 1, 1, 1}, {2, 1, 0, 1, 1}, {2, 4, 1, 1, 1}, {2, 1, 4, 1, 1}, {3, 1, 1, 0, 1}, {3, 1, 1, 3, 1},
            {4, 1, 1, 1, 0}, {4, 1, 1, 1, 2}, {2, GREATEST, GREATEST, 1, 1}, {3, GREATEST, GREATEST, 4, 1}};
        for (int[] s : sources) {
            all.add(new Refused("source" + java.util.Arrays.toString(s), x -> x.source(s[0], s[1], s[2], s[3], s[4]), -1));
        }
        for (int slot : NO_SLOTS) {
            all.add(new Refused("word in " + slot, x -> as(x.word(slot, 1, 0)), 0));
            all.addAll(refusedOfSlot(slot));
        }
        int[][] words = {
            {0, 0, 0}, {0, 6, 0}, {0, -1, 0}, {0, LEAST, 0}, {0, GREATEST, 0}, {0, 32, 0}, {7, 1, -1}, {7, 1, 4},
            {7, 5, 1024}, {7, 5, LEAST}, {7, 5, GREATEST}};
        for (int[] w : words) {
            all.add(new Refused("word" + java.util.Arrays.toString(w), x -> as(x.word(w[0], w[1], w[2])), 0));
        }
        for (int n : NO_COUNTED) {
            all.add(new Refused("never of " + n, x -> x.never(255, n), -1));
            all.add(new Refused("covered of " + n, x -> x.covered(n), -1));
        }
        for (int n : new int[] {LEAST, -1, 301, GREATEST}) {
            all.add(new Refused("draw of " + n, x -> x.draw(12, n), 0));
            all.add(new Refused("add of " + n, x -> x.add(n), -1));
        }
        for (int list : new int[] {0, 256, 15, 255, LEAST, -1}) {
            all.add(new Refused("first of " + list, x -> as(x.first(list, -1)), 0));
        }
        return all;
    }

    /** What is refused of a SLOT that there is not. */
    private static List<Refused> refusedOfSlot(int slot) {
        List<Refused> all = new ArrayList<>();
        all.add(new Refused("drop of " + slot, x -> as(x.drop(slot)), 0));
        all.add(new Refused("lead of " + slot, x -> as(x.lead(slot, 7)), 0));
        all.add(new Refused("lead on " + slot, x -> as(x.lead(7, slot)), 0));
        all.add(new Refused("wait for " + slot, x -> as(x.wait(slot, 0)), 0));
        all.add(new Refused("odds of " + slot, x -> as(x.odds(slot, 7)), 0));
        all.add(new Refused("best of " + slot, x -> x.best(slot), -1));
        all.add(new Refused("won of " + slot, x -> as(x.won(slot)), 0));
        all.add(new Refused("times of " + slot, x -> x.times(slot, 3, 1, true), -1));
        return all;
    }

    private static List<Refused> refusedWithoutWords() {
        List<Refused> all = new ArrayList<>(refusedOfSlot(0));
        all.add(new Refused("laps", x -> x.laps(0, 0), -1));
        all.add(new Refused("within", x -> as(x.within(0, 0)), 0));
        all.add(new Refused("first", x -> as(x.first(1, 0)), 0));
        all.add(new Refused("tell", x -> x.tell(0, 0), -1));
        all.add(new Refused("came", x -> x.came(0, 1), -1));
        all.add(new Refused("letter", x -> x.letter(0), -1));
        all.add(new Refused("add(2)", x -> x.add(2), -1));
        return all;
    }

    private static List<Refused> refusedOfTheHalfFull() {
        List<Refused> all = new ArrayList<>(refusedOfSlot(1));
        all.add(new Refused("word(0, 5, 243)", x -> as(x.word(0, 5, 243)), 0));
        all.add(new Refused("word(1, 1, 3)", x -> as(x.word(1, 1, 3)), 0));
        all.add(new Refused("first of none", x -> as(x.first(1 << 1 | 1 << 7, 7)), 0));
        all.add(new Refused("first of what lies within", x -> as(x.first(1 << 0 | 1 << 2, -1)), 0));
        all.add(new Refused("first of another slot", x -> as(x.first(1 << 3 | 1 << 7, 2)), 0));
        all.add(new Refused("first of slot -2", x -> as(x.first(1 << 3 | 1 << 7, -2)), 0));
        all.add(new Refused("odds of what lies within", x -> as(x.odds(2, 0)), 0));
        all.add(new Refused("odds of itself", x -> as(x.odds(3, 3)), 0));
        all.add(new Refused("best, not even", x -> x.best(3), -1));
        all.add(new Refused("won, it did not come", x -> as(x.won(3)), 0));
        all.add(new Refused("came, it did not", x -> x.came(3, 0), -1));
        all.add(new Refused("times of 31", x -> x.times(3, 31, 0, false), -1));
        all.add(new Refused("times of k below 0", x -> x.times(3, 30, -1, true), 0));
        all.add(new Refused("add(3)", x -> x.add(3), -1));
        all.add(new Refused("letter(5)", x -> x.letter(5), -1));
        for (int what : NO_WHATS) {
            all.add(new Refused("wait, what " + what, x -> as(x.wait(3, what)), 0));
            all.add(new Refused("came, what " + what, x -> x.came(2, what), -1));
        }
        return all;
    }

    private static List<Refused> refusedOfTheFull() {
        List<Refused> all = new ArrayList<>();
        all.add(new Refused("add(0) to 300", x -> x.add(0), -1));
        all.add(new Refused("add(1) to 300", x -> x.add(1), -1));
        all.add(new Refused("draw of 301", x -> x.draw(11, 301), 0));
        all.add(new Refused("word(3, 5, 32)", x -> as(x.word(3, 5, 32)), 0));
        all.add(new Refused("word(3, 1, 2)", x -> as(x.word(3, 1, 2)), 0));
        all.add(new Refused("first of four", x -> as(x.first(0b11011, 0)), 0));
        all.add(new Refused("first of three, another slot", x -> as(x.first(0b10011, 2)), 0));
        all.add(new Refused("first with bit 8", x -> as(x.first(0b100000011, 0)), 0));
        all.add(new Refused("best, not even", x -> x.best(7), -1));
        all.add(new Refused("odds of itself", x -> as(x.odds(7, 7)), 0));
        return all;
    }

    private static List<Refused> refusedOfTheEven() {
        List<Refused> all = new ArrayList<>(refusedOfSlot(0));
        all.add(new Refused("best of one letter", x -> x.best(1), -1));
        all.add(new Refused("best of two letters", x -> x.best(4), -1));
        all.add(new Refused("first of what lies within", x -> as(x.first(1 << 1 | 1 << 5, 5)), 0));
        all.add(new Refused("odds of what lies within", x -> as(x.odds(5, 4)), 0));
        all.add(new Refused("word(1, 1, 4)", x -> as(x.word(1, 1, 4)), 0));
        all.add(new Refused("add(4)", x -> x.add(4), -1));
        return all;
    }
}
