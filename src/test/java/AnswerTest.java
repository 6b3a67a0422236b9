/** Promises 5, 6 and 7. */
public final class AnswerTest {
    private static int counted(int things, int sorts, int... c) {
        RiddleMill mill = new RiddleMill(things, sorts);
        for (int k = 0; k < c.length; k += 6) {
            mill.clue(c[k], c[k + 1], c[k + 2], c[k + 3], c[k + 4], c[k + 5]);
        }
        return mill.count(1000000);
    }

    private static void counting() {
        Check.equal("worlds 3, 1", counted(3, 1), 6 * 4);
        Check.equal("worlds 3, 3", counted(3, 3), 216 * 4);
        Check.equal("worlds 4, 3", counted(4, 3), 13824 * 4);
        Check.equal("worlds 5, 2", counted(5, 2), 14400 * 4);
        Check.equal("kind 0", counted(3, 2, 0, 10, 20, 0, 0, -1), 12 * 4);
        Check.equal("kind 0, one sort", counted(3, 1, 0, 10, 11, 0, 0, -1), 0);
        Check.equal("kind 1", counted(3, 2, 1, 10, 20, 0, 0, -1), 24 * 4);
        Check.equal("kind 2", counted(3, 1, 2, 10, 11, 0, 0, -1), 3 * 4);
        Check.equal("kind 3", counted(3, 1, 3, 10, 11, 0, 0, -1), 4 * 4);
        Check.equal("kind 4", counted(3, 1, 4, 10, 11, 0, 2, -1), 2 * 4);
        Check.equal("kind 5", counted(3, 1, 5, 10, 11, 12, 0, -1), 2 * 4);
        Check.equal("kind 6", counted(3, 1, 6, 10, 0, 0, 1, -1), 2 * 4);
        Check.equal("kind 7", counted(3, 3, 7, 10, 20, 30, 0, -1), 216 * 5 / 9 * 4);
        Check.equal("kind 8", counted(3, 3, 8, 10, 20, 30, 0, -1), 216 * 4 / 9 * 4);
        Check.equal("kind 9", counted(3, 2, 9, 10, 11, 0, 2, -1), 18 * 4);
        Check.equal("kind 9, places alike", counted(3, 2, 0, 10, 20, 0, 0, -1, 9, 10, 20, 0, 1, -1), 0);
        Check.equal("a speaker alone rules nothing out", counted(3, 1, 6, 10, 0, 0, 1, 0), 6 * 2);
        Check.equal("two that tell the same", counted(3, 1, 6, 10, 0, 0, 1, 0, 6, 10, 0, 0, 1, 1), 6);
        Check.equal("one against himself", counted(3, 1, 6, 10, 0, 0, 1, 0, 6, 10, 0, 0, 2, 0), 2 * 2);
        Check.equal("a liar", counted(3, 1, 0, 10, 11, 0, 0, 0, 6, 10, 0, 0, 2, 0), 4 * 2);

        RiddleMill mill = new RiddleMill(3, 1);
        Check.equal("count(0)", mill.count(0), 0);
        Check.equal("count(1)", mill.count(1), 1);
        Check.equal("count(23)", mill.count(23), 23);
        Check.equal("count(24)", mill.count(24), 24);
        Check.equal("count(25)", mill.count(25), 24);
        Check.equal("count(greatest)", mill.count(Integer.MAX_VALUE), 24);
        Check.fails("count(-1)", IllegalArgumentException.class, () -> mill.count(-1));
        Check.fails("count(least)", IllegalArgumentException.class, () -> mill.count(Integer.MIN_VALUE));
    }

    private static void answering() {
        RiddleMill mill = new RiddleMill(3, 1);
        Check.equal("nothing is known", mill.answer(10), -1);
        mill.clue(6, 11, 0, 0, 0, -1);
        Check.equal("answer(11)", mill.answer(11), 0);
        Check.equal("answer(10)", mill.answer(10), -1);
        mill.clue(2, 10, 12, 0, 0, 1);
        Check.equal("a speaker of whom nothing is known", mill.answer(1), -1);
        Check.equal("a speaker without a word", mill.answer(0), -1);
        mill.clue(0, 10, 12, 0, 0, 1);
        Check.equal("a liar", mill.answer(1), 0);
        Check.equal("by the liar", mill.answer(10), 2);
        Check.equal("by the liar, too", mill.answer(12), 1);
        mill.clue(1, 10, 12, 0, 0, 0);
        Check.equal("one who tells the truth", mill.answer(0), 1);
        for (int x : new int[] {-1, 2, 9, 13, 20, 30, 101, Integer.MIN_VALUE, Integer.MAX_VALUE}) {
            Check.equal("answer(" + x + ")", mill.answer(x), -1);
        }
        mill.clue(6, 11, 0, 0, 1, -1);
        Check.equal("no answer", mill.answer(11), -1);
        Check.equal("no answer for a speaker", mill.answer(1), -1);
    }

    private static void needing() {
        RiddleMill mill = new RiddleMill(3, 1);
        mill.clue(6, 10, 0, 0, 0, -1);
        mill.clue(6, 11, 0, 0, 1, -1);
        mill.clue(6, 12, 0, 0, 2, -1);
        Check.isFalse("one of three", mill.needed(1));
        mill.drop(1);
        Check.isTrue("one of two", mill.needed(0));
        Check.isTrue("the other of two", mill.needed(1));
        Check.equal("the clue stays", mill.clueAt(0, 1), 10);
        mill.clue(3, 10, 12, 0, 0, -1);
        for (int k = 0; k < 3; k++) {
            Check.isFalse("no answer with it, one without clue " + k, mill.needed(k));
        }
        mill.clue(0, 10, 12, 0, 0, -1);
        Check.isFalse("no answers without it", mill.needed(0));
        for (int k : new int[] {-1, 4, Integer.MIN_VALUE, Integer.MAX_VALUE}) {
            Check.fails("needed(" + k + ")", IndexOutOfBoundsException.class, () -> mill.needed(k) ? 1 : 0);
        }
        RiddleMill told = new RiddleMill(3, 1);
        told.clue(6, 10, 0, 0, 0, -1);
        told.clue(2, 11, 12, 0, 0, -1);
        told.clue(2, 11, 12, 0, 0, 0);
        Check.isFalse("answers that differ in a speaker alone", told.needed(2));
    }

    public static void main(String[] args) {
        counting();
        answering();
        needing();
        Check.done();
    }
}
