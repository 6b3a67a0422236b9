/** Promises 2, 3 and 4. */
public final class ClueTest {
    private static final Class<IllegalArgumentException> WRONG = IllegalArgumentException.class;
    private static final Class<IllegalStateException> STATE = IllegalStateException.class;
    private static final Class<IndexOutOfBoundsException> INDEX = IndexOutOfBoundsException.class;

    private static void refused(RiddleMill mill, int... c) {
        Check.fails("clue" + java.util.Arrays.toString(c), WRONG, () -> mill.clue(c[0], c[1], c[2], c[3], c[4], c[5]));
    }

    private static void taken(RiddleMill mill, int... c) {
        int k = mill.about(2);
        Check.equal("clue" + java.util.Arrays.toString(c), mill.clue(c[0], c[1], c[2], c[3], c[4], c[5]), k);
        for (int what = 0; what < 6; what++) {
            Check.equal("clueAt(" + k + ", " + what + ")", mill.clueAt(k, what), c[what]);
        }
    }

    private static void eachKind() {
        RiddleMill mill = new RiddleMill(4, 3);
        for (int kind : new int[] {0, 1, 2, 3}) {
            taken(mill, kind, 10, 33, 0, 0, -1);
            refused(mill, kind, 10, 33, 11, 0, -1);
            refused(mill, kind, 10, 33, 0, 1, -1);
            refused(mill, kind, 10, 10, 0, 0, -1);
            refused(mill, kind, 10, 0, 0, 0, -1);
        }
        for (int kind : new int[] {5, 7, 8}) {
            taken(mill, kind, 20, 12, 13, 0, 1);
            refused(mill, kind, 20, 12, 0, 0, 1);
            refused(mill, kind, 20, 12, 12, 0, 1);
            refused(mill, kind, 20, 20, 12, 0, 1);
            refused(mill, kind, 20, 12, 20, 0, 1);
            refused(mill, kind, 20, 12, 13, 1, 1);
        }
        taken(mill, 4, 11, 10, 0, 1, 0);
        taken(mill, 4, 11, 10, 0, 3, 0);
        refused(mill, 4, 11, 10, 0, 0, 0);
        refused(mill, 4, 11, 10, 0, 4, 0);
        refused(mill, 4, 11, 10, 12, 1, 0);
        taken(mill, 6, 32, 0, 0, 0, 0);
        taken(mill, 6, 32, 0, 0, 3, 0);
        refused(mill, 6, 32, 0, 0, 4, 0);
        refused(mill, 6, 32, 0, 0, -1, 0);
        refused(mill, 6, 32, 10, 0, 0, 0);
        refused(mill, 6, 32, 0, 10, 0, 0);
        taken(mill, 9, 11, 20, 0, 1, -1);
        taken(mill, 9, 11, 20, 0, 3, -1);
        refused(mill, 9, 11, 20, 0, 0, -1);
        refused(mill, 9, 11, 20, 0, 4, -1);
        refused(mill, 9, 11, 20, 10, 1, -1);
        refused(mill, 9, 11, 11, 0, 1, -1);
    }

    private static void wrongThings() {
        RiddleMill mill = new RiddleMill(3, 2);
        int[] none = {-1, 0, 1, 2, 9, 13, 19, 23, 30, 31, 40, -10, -11, 100, 110, Integer.MIN_VALUE, Integer.MAX_VALUE};
        for (int x : none) {
            refused(mill, 0, x, 10, 0, 0, -1);
            refused(mill, 0, 10, x, 0, 0, -1);
            refused(mill, 7, 10, 20, x, 0, -1);
            refused(mill, 6, x, 0, 0, 0, -1);
        }
        for (int kind : new int[] {-1, 10, 16, Integer.MIN_VALUE, Integer.MAX_VALUE}) {
            refused(mill, kind, 10, 20, 0, 0, -1);
        }
        for (int speaker : new int[] {-2, 2, Integer.MIN_VALUE, Integer.MAX_VALUE}) {
            refused(mill, 0, 10, 20, 0, 0, speaker);
        }
        Check.equal("none of them came", mill.about(2), 0);
    }

    private static void fullAndDouble() {
        RiddleMill mill = new RiddleMill(5, 2);
        taken(mill, 0, 10, 20, 0, 0, -1);
        Check.fails("one just like it", STATE, () -> mill.clue(0, 10, 20, 0, 0, -1));
        taken(mill, 0, 20, 10, 0, 0, -1);
        taken(mill, 0, 10, 20, 0, 0, 0);
        taken(mill, 0, 10, 20, 0, 0, 1);
        for (int k = 4; k < 30; k++) {
            taken(mill, k % 2, 10 + k % 5, 20 + (k / 5) % 5, 0, 0, k < 17 ? 0 : 1);
        }
        Check.fails("the 31st", STATE, () -> mill.clue(6, 10, 0, 0, 0, -1));
        Check.fails("the 31st, not as told", WRONG, () -> mill.clue(6, 10, 0, 0, 5, -1));
        Check.equal("30 stay", mill.about(2), 30);
        mill.drop(29);
        taken(mill, 6, 10, 0, 0, 0, -1);
    }

    private static void dropping() {
        RiddleMill mill = new RiddleMill(4, 1);
        Check.fails("drop(0) of none", INDEX, () -> { mill.drop(0); return 0; });
        for (int d = 0; d < 4; d++) {
            mill.clue(6, 10, 0, 0, d, -1);
        }
        mill.drop(1);
        Check.equal("about(2)", mill.about(2), 3);
        Check.equal("the first stays", mill.clueAt(0, 4), 0);
        Check.equal("the next comes up", mill.clueAt(1, 4), 2);
        Check.equal("the last comes up", mill.clueAt(2, 4), 3);
        Check.equal("no clue 3 any more", mill.clueAt(3, 4), RiddleMill.NONE);
        for (int k : new int[] {-1, 3, 30, Integer.MIN_VALUE, Integer.MAX_VALUE}) {
            Check.fails("drop(" + k + ")", INDEX, () -> { mill.drop(k); return 0; });
            Check.equal("clueAt(" + k + ", 0)", mill.clueAt(k, 0), RiddleMill.NONE);
        }
        Check.equal("what is gone may come again", mill.clue(6, 10, 0, 0, 1, -1), 3);
        for (int what : new int[] {-1, 6, Integer.MIN_VALUE, Integer.MAX_VALUE}) {
            Check.equal("clueAt(0, " + what + ")", mill.clueAt(0, what), RiddleMill.NONE);
        }
    }

    public static void main(String[] args) {
        eachKind();
        wrongThings();
        fullAndDouble();
        dropping();
        Check.done();
    }
}
