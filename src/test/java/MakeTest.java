/** Promise 12; what is made is compared with a plain maker in OracleTest. */
public final class MakeTest {
    private static final Class<IllegalArgumentException> WRONG = IllegalArgumentException.class;

    private static void made(int things, int sorts, int seed, int rating) {
        RiddleMill mill = new RiddleMill(things, sorts);
        mill.clue(6, 10, 0, 0, 1, 0);
        int times = mill.make(seed, rating);
        String what = "make(" + seed + ", " + rating + ") of " + things + ", " + sorts;
        Check.isTrue(what, times >= 0 && times <= 4);
        if (times == 0) {
            Check.equal(what + ": the clues stay", mill.about(2), 1);
            Check.equal(what + ": the clue stays", mill.clueAt(0, 5), 0);
            return;
        }
        Check.equal(what + ": rating()", mill.rating(), rating);
        Check.equal(what + ": one answer, any speakers", mill.count(1000000), 4);
        Check.isTrue(what + ": at most 24", mill.about(2) <= 24);
        for (int k = 0; k < mill.about(2); k++) {
            Check.equal(what + ": no speaker", mill.clueAt(k, 5), RiddleMill.NONE);
            Check.isTrue(what + ": kinds 0 to 6", mill.clueAt(k, 0) <= 6);
            Check.isTrue(what + ": thinned out", mill.needed(k));
        }
    }

    public static void main(String[] args) {
        int[] sizes = {31, 32, 33, 41, 42, 43, 51, 52};
        for (int size : sizes) {
            for (int seed : new int[] {1, 2, 16807, 2147483645, 2147483646}) {
                for (int rating = 1; rating <= 5; rating++) {
                    made(size / 10, size % 10, seed, rating);
                }
            }
        }
        RiddleMill mill = new RiddleMill(3, 2);
        for (int seed : new int[] {0, -1, Integer.MIN_VALUE, Integer.MAX_VALUE}) {
            Check.fails("make(" + seed + ", 3)", WRONG, () -> mill.make(seed, 3));
        }
        for (int rating : new int[] {0, 6, -1, Integer.MIN_VALUE, Integer.MAX_VALUE}) {
            Check.fails("make(1, " + rating + ")", WRONG, () -> mill.make(1, rating));
        }
        Check.equal("none came", mill.about(2), 0);
        Check.done();
    }
}
