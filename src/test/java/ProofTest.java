/** Promises 8 to 11. */
public final class ProofTest {
    private static void step(RiddleMill mill, int k, int rule, int clue, int thing, int place) {
        Check.equal("step(" + k + ", 0)", mill.step(k, 0), rule);
        Check.equal("step(" + k + ", 1)", mill.step(k, 1), clue);
        Check.equal("step(" + k + ", 2)", mill.step(k, 2), thing);
        Check.equal("step(" + k + ", 3)", mill.step(k, 3), place);
    }

    private static void rulesOneToThree() {
        RiddleMill mill = new RiddleMill(3, 1);
        mill.clue(6, 11, 0, 0, 1, -1);
        mill.clue(2, 10, 12, 0, 0, -1);
        Check.equal("steps", mill.prove(), 6);
        step(mill, 0, 3, 0, 11, 0);
        step(mill, 1, 3, 0, 11, 2);
        step(mill, 2, 1, -1, 10, 1);
        step(mill, 3, 1, -1, 12, 1);
        step(mill, 4, 3, 1, 10, 2);
        step(mill, 5, 1, -1, 12, 0);
        Check.equal("rating", mill.rating(), 3);
        Check.equal("may(10)", mill.may(10), 1);
        Check.equal("may(11)", mill.may(11), 2);
        Check.equal("may(12)", mill.may(12), 4);

        RiddleMill only = new RiddleMill(3, 1);
        only.clue(2, 10, 11, 0, 0, -1);
        only.clue(2, 10, 12, 0, 0, -1);
        Check.equal("steps", only.prove(), 4);
        step(only, 0, 3, 0, 10, 2);
        step(only, 1, 3, 0, 11, 0);
        step(only, 2, 3, 1, 12, 0);
        step(only, 3, 2, -1, 10, 1);
    }

    private static void ruleFour() {
        RiddleMill mill = new RiddleMill(4, 1);
        mill.clue(1, 10, 11, 0, 0, -1);
        mill.clue(4, 10, 11, 0, 3, -1);
        int steps = mill.prove();
        Check.equal("steps", steps, 8);
        for (int k = 0; k < 4; k++) {
            step(mill, k, 3, 1, 10 + k / 2, 1 + k % 2);
        }
        step(mill, 4, 4, -1, 12, 0);
        step(mill, 5, 4, -1, 12, 3);
        step(mill, 6, 4, -1, 13, 0);
        step(mill, 7, 4, -1, 13, 3);
        Check.equal("not each thing at one place", mill.rating(), 0);
        mill.clue(2, 10, 11, 0, 0, -1);
        mill.clue(2, 12, 13, 0, 0, -1);
        Check.equal("rating without rule 4", mill.rating(), 3);
        Check.equal("steps of the latest prove() stay", mill.step(4, 0), 4);
    }

    private static void ruleFive() {
        RiddleMill mill = new RiddleMill(3, 1);
        mill.clue(2, 11, 12, 0, 0, -1);
        mill.clue(5, 10, 11, 12, 0, -1);
        mill.prove();
        step(mill, 0, 3, 0, 11, 2);
        step(mill, 1, 3, 0, 12, 0);
        step(mill, 2, 5, 1, 10, 0);
        Check.equal("rating 5", mill.rating(), 5);
        RiddleMill either = new RiddleMill(3, 3);
        either.clue(8, 10, 20, 21, 0, -1);
        either.clue(6, 22, 0, 0, 0, -1);
        either.clue(7, 11, 22, 30, 0, -1);
        either.clue(6, 30, 0, 0, 1, -1);
        Check.isTrue("steps by kinds 7, 8", either.prove() > 0);
        Check.equal("by kind 8: not where the third is", either.may(10), 6);
        Check.equal("by kind 7: with one of both", either.may(11), 3);
        Check.equal("the last may be anywhere", either.may(12), 7);
    }

    private static void useless() {
        RiddleMill mill = new RiddleMill(3, 2);
        Check.equal("no clues, no steps", mill.prove(), 0);
        Check.equal("but a proof", mill.may(10), 7);
        Check.equal("no clues, no rating", mill.rating(), 0);
        mill.clue(6, 10, 0, 0, 0, 0);
        mill.clue(9, 10, 11, 0, 2, -1);
        Check.equal("speakers and kind 9 give no step", mill.prove(), 0);
        mill.clue(6, 10, 0, 0, 2, -1);
        mill.prove();
        step(mill, 0, 3, 2, 10, 0);
    }

    private static void nowhere() {
        RiddleMill mill = new RiddleMill(3, 1);
        mill.clue(6, 10, 0, 0, 0, -1);
        mill.clue(6, 10, 0, 0, 1, -1);
        Check.equal("steps till a thing is nowhere", mill.prove(), 5);
        step(mill, 0, 3, 0, 10, 1);
        step(mill, 1, 3, 0, 10, 2);
        step(mill, 2, 1, -1, 11, 0);
        step(mill, 3, 1, -1, 12, 0);
        step(mill, 4, 3, 1, 10, 0);
        Check.equal("nowhere", mill.may(10), 0);
        Check.equal("the others stay", mill.may(11), 6);
        Check.equal("rating", mill.rating(), 0);
    }

    private static void edges() {
        RiddleMill mill = new RiddleMill(3, 1);
        mill.clue(6, 10, 0, 0, 0, -1);
        Check.equal("rating() makes no proof to look at", mill.rating(), 0);
        Check.equal("none was made", mill.may(10), 0);
        Check.equal("none was made, no step", mill.step(0, 0), -1);
        Check.equal("steps", mill.prove(), 4);
        for (int k : new int[] {-1, 4, 50, Integer.MIN_VALUE, Integer.MAX_VALUE}) {
            Check.equal("step(" + k + ", 0)", mill.step(k, 0), -1);
        }
        for (int what : new int[] {-1, 4, Integer.MIN_VALUE, Integer.MAX_VALUE}) {
            Check.equal("step(0, " + what + ")", mill.step(0, what), -1);
        }
        for (int x : new int[] {-1, 0, 1, 9, 13, 20, 110, Integer.MIN_VALUE, Integer.MAX_VALUE}) {
            Check.equal("may(" + x + ")", mill.may(x), 0);
        }
        mill.drop(0);
        step(mill, 0, 3, 0, 10, 1);
        Check.equal("clues that go leave it", mill.may(10), 1);
        mill.make(1, 3);
        step(mill, 0, 3, 0, 10, 1);
        Check.equal("and so does make()", mill.may(11), 6);
        mill.clue(2, 12, 11, 0, 0, 1);
        mill.prove();
        Check.isTrue("a new proof", mill.step(0, 0) == 3);
    }

    public static void main(String[] args) {
        rulesOneToThree();
        ruleFour();
        ruleFive();
        useless();
        nowhere();
        edges();
        Check.done();
    }
}
