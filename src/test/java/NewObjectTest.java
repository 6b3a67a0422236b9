/** Promises 1 and 19. */
public final class NewObjectTest {
    private static void size(int things, int sorts, int n, int k) {
        RiddleMill mill = new RiddleMill(things, sorts);
        String what = "new RiddleMill(" + things + ", " + sorts + ")";
        Check.equal(what + ".about(0)", mill.about(0), n);
        Check.equal(what + ".about(1)", mill.about(1), k);
        Check.equal(what + ".about(2)", mill.about(2), 0);
    }

    public static void main(String[] args) {
        size(3, 1, 3, 1);
        size(4, 3, 4, 3);
        size(5, 2, 5, 2);
        size(5, 3, 5, 2);
        size(2, 0, 3, 1);
        size(6, 4, 5, 2);
        size(4, 4, 4, 3);
        size(Integer.MIN_VALUE, Integer.MIN_VALUE, 3, 1);
        size(Integer.MAX_VALUE, Integer.MAX_VALUE, 5, 2);

        RiddleMill mill = new RiddleMill(4, 2);
        Check.equal("no clue at first", mill.clueAt(0, 0), RiddleMill.NONE);
        Check.equal("no step at first", mill.step(0, 0), RiddleMill.NONE);
        Check.equal("no proof at first", mill.may(10), 0);
        Check.equal("nothing shown at first", mill.shown(0), RiddleMill.NONE);
        Check.equal("no fault at first", mill.fault(), RiddleMill.NONE);
        Check.equal("an empty line at first", mill.type(0), 0);
        Check.equal("a clue without names", mill.clue(0, 10, 20, 0, 0, -1), 0);
        Check.equal("no names at first", mill.print(0), 0);
        Check.equal("about(2)", mill.about(2), 1);
        mill.clue(1, 10, 21, 0, 0, -1);
        Check.equal("about(2) of two", mill.about(2), 2);
        mill.drop(0);
        Check.equal("about(2) behind drop", mill.about(2), 1);
        for (int what : new int[] {-1, 3, 4, Integer.MIN_VALUE, Integer.MAX_VALUE}) {
            Check.equal("about(" + what + ")", mill.about(what), RiddleMill.NONE);
        }
        Check.done();
    }
}
