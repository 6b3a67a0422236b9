/** The edges that promise 12, and the term MAKING, name, a test for each; the riddles told here are the Oracle's. */
public final class EdgesOfMakingTest {
    private static final Class<IllegalArgumentException> WRONG = IllegalArgumentException.class;
    private static final int NONE = RiddleMill.NONE;
    private static final int FIRST_SEED = 1;
    private static final int LAST_SEED = 2147483646;
    private static final int LEAST = Integer.MIN_VALUE;
    private static final int GREATEST = Integer.MAX_VALUE;

    private static void made(int things, int sorts, int seed, int rating, int times, String clues) {
        RiddleMill mill = new RiddleMill(things, sorts);
        String what = "make(" + seed + ", " + rating + ") of " + things + ", " + sorts;
        Check.equal(what, mill.make(seed, rating), times);
        Check.equal(what + ", its clues", State.clues(mill), clues);
        Check.equal(what + ", its rating", mill.rating(), rating);
        Check.equal(what + ", its answers", mill.count(5), 4);
    }

    private static void theFirstSeed() {
        made(3, 1, FIRST_SEED, 3, 2, " clues (4 10 12 0 2 -1) (6 10 0 0 2 -1)");
        made(3, 2, FIRST_SEED, 5, 3, " clues (5 11 12 22 0 -1) (4 10 21 0 1 -1) (2 20 21 0 0 -1)");
        made(3, 3, FIRST_SEED, 5, 1,
            " clues (1 10 22 0 0 -1) (3 21 30 0 0 -1) (4 12 22 0 1 -1) (5 32 22 31 0 -1) (2 30 21 0 0 -1)");
        made(4, 1, FIRST_SEED, 3, 1, " clues (4 11 13 0 1 -1) (6 10 0 0 1 -1) (3 10 11 0 0 -1)");
        made(4, 2, FIRST_SEED, 5, 1,
            " clues (4 22 23 0 2 -1) (2 23 21 0 0 -1) (6 21 0 0 2 -1) (5 10 11 20 0 -1) (5 11 10 13 0 -1)");
        made(4, 3, FIRST_SEED, 5, 1, " clues (2 11 13 0 0 -1) (5 33 12 21 0 -1) (5 23 11 12 0 -1) (4 10 20 0 1 -1)"
            + " (2 30 23 0 0 -1) (2 10 31 0 0 -1) (5 21 12 31 0 -1)");
        made(5, 1, FIRST_SEED, 3, 1, " clues (3 13 14 0 0 -1) (4 11 14 0 3 -1) (2 13 11 0 0 -1) (6 12 0 0 0 -1)");
        made(5, 2, FIRST_SEED, 5, 3, " clues (4 13 23 0 2 -1) (5 12 22 24 0 -1) (4 13 22 0 3 -1) (2 22 20 0 0 -1)"
            + " (5 20 11 14 0 -1) (2 24 11 0 0 -1) (1 12 20 0 0 -1) (4 11 20 0 2 -1)");
    }

    /** 48271 times these seeds goes far beyond an int. */
    private static void theLastSeed() {
        made(3, 1, LAST_SEED, 3, 2, " clues (6 10 0 0 2 -1) (6 12 0 0 1 -1)");
        made(3, 2, LAST_SEED, 3, 1, " clues (0 11 22 0 0 -1) (2 12 20 0 0 -1) (2 11 10 0 0 -1) (2 12 11 0 0 -1)");
        made(3, 3, LAST_SEED, 5, 1, " clues (4 10 21 0 2 -1) (2 11 31 0 0 -1) (5 30 20 32 0 -1) (5 22 10 12 0 -1)");
        made(4, 1, LAST_SEED, 5, 3, " clues (4 12 13 0 2 -1) (6 13 0 0 2 -1) (5 10 11 12 0 -1)");
        made(4, 2, LAST_SEED, 5, 3, " clues (4 10 13 0 3 -1) (4 20 21 0 2 -1) (5 11 12 20 0 -1) (6 11 0 0 2 -1)"
            + " (2 21 22 0 0 -1) (5 11 13 20 0 -1)");
        made(4, 3, LAST_SEED, 5, 1, " clues (0 11 33 0 0 -1) (3 32 33 0 0 -1) (4 21 30 0 2 -1) (5 23 10 13 0 -1)"
            + " (5 20 13 33 0 -1) (6 10 0 0 3 -1)");
        made(5, 1, LAST_SEED, 3, 3, " clues (2 11 12 0 0 -1) (6 13 0 0 3 -1) (4 10 12 0 1 -1) (4 12 14 0 3 -1)");
        made(5, 2, LAST_SEED, 5, 1, " clues (2 23 10 0 0 -1) (0 14 24 0 0 -1) (5 21 10 13 0 -1) (5 24 21 23 0 -1)"
            + " (5 10 12 14 0 -1) (5 12 20 24 0 -1)");
    }

    /** A mill with all that a call could spoil: clues, a proof, a line, a fault and something shown. */
    private static RiddleMill busy() {
        RiddleMill mill = new RiddleMill(3, 1);
        mill.name(10, Words.pack("a"));
        mill.clue(6, 10, 0, 0, 1, 0);
        mill.clue(2, 10, 11, 0, 0, NONE);
        mill.prove();
        mill.print(0);
        Words.type(mill, "a is b");
        Check.fails("read()", WRONG, mill::read);
        mill.type(Words.pack("a is"));
        return mill;
    }

    private static void refused(int seed, int rating) {
        RiddleMill mill = busy();
        String before = State.of(mill);
        Check.fails("make(" + seed + ", " + rating + ")", WRONG, () -> mill.make(seed, rating));
        Check.equal("all behind make(" + seed + ", " + rating + ")", State.of(mill), before);
    }

    private static void seedsBelowOne() {
        for (int seed : new int[] {0, -1, -2147483646, -2147483647, LEAST}) {
            refused(seed, 3);
        }
    }

    private static void seedsAboveTheLast() {
        refused(2147483647, 3);
    }

    private static void ratingsBelowOne() {
        for (int rating : new int[] {0, -1, -5, LEAST}) {
            refused(1, rating);
        }
    }

    private static void ratingsAboveFive() {
        for (int rating : new int[] {6, 7, GREATEST}) {
            refused(1, rating);
        }
    }

    private static void bothWrong() {
        refused(0, 0);
        refused(GREATEST, 6);
    }

    private static void ratingsOneToFive() {
        Check.equal("rating 1", new RiddleMill(3, 1).make(1, 1), 0);
        Check.equal("rating 2", new RiddleMill(3, 1).make(1, 2), 0);
        Check.equal("rating 3", new RiddleMill(3, 1).make(1, 3), 2);
        Check.equal("rating 4, none", new RiddleMill(3, 1).make(1, 4), 0);
        Check.equal("rating 4", new RiddleMill(5, 1).make(40, 4), 2);
        Check.equal("rating 5", new RiddleMill(3, 1).make(1, 5), 4);
    }

    private static void times(int seed, int rating, int due) {
        Check.equal("make(" + seed + ", " + rating + ")", new RiddleMill(3, 1).make(seed, rating), due);
    }

    private static void oneToFourTimes() {
        times(2, 3, 1);
        times(1, 3, 2);
        times(16, 3, 3);
        times(7, 3, 4);
        times(7, 5, 1);
        times(4, 5, 2);
        times(6, 5, 3);
        times(2, 5, 4);
    }

    /** What a fifth time would make is not made. */
    private static void noFifthTime() {
        times(70, 3, 0);
        times(186, 3, 0);
        times(19, 5, 0);
        times(24, 5, 0);
        Check.equal("4, 2", new RiddleMill(4, 2).make(173, 4), 0);
        Check.equal("4, 3", new RiddleMill(4, 3).make(6, 5), 0);
    }

    private static void noneMade() {
        RiddleMill mill = busy();
        String before = State.of(mill);
        Check.equal("make(1, 4)", mill.make(1, 4), 0);
        Check.equal("all", State.of(mill), before);
        RiddleMill empty = new RiddleMill(3, 1);
        Check.equal("make(70, 3)", empty.make(70, 3), 0);
        Check.equal("clues", empty.about(2), 0);
    }

    private static void madeInPlaceOfTheClues() {
        RiddleMill mill = busy();
        String before = State.of(mill);
        String clues = State.clues(mill);
        Check.equal("make(1, 3)", mill.make(1, 3), 2);
        Check.equal("all but the clues", State.of(mill),
            before.replace(clues, " clues (4 10 12 0 2 -1) (6 10 0 0 2 -1)"));
    }

    private static void madeInPlaceOfThirty() {
        RiddleMill mill = new RiddleMill(5, 1);
        for (int k = 0; k < 30; k++) {
            mill.clue(k % 3, 10, 11 + k / 3 % 4, 0, 0, k / 12 - 1);
        }
        Check.equal("clues", mill.about(2), 30);
        Check.equal("make(1, 3)", mill.make(1, 3), 1);
        Check.equal("clues", State.clues(mill),
            " clues (3 13 14 0 0 -1) (4 11 14 0 3 -1) (2 13 11 0 0 -1) (6 12 0 0 0 -1)");
        Check.equal("no more", mill.clueAt(4, 0), NONE);
        Check.equal("one more may come", mill.clue(0, 10, 11, 0, 0, NONE), 4);
        Check.fails("one just like it", IllegalStateException.class, () -> mill.clue(3, 13, 14, 0, 0, NONE));
    }

    private static void madeTwice() {
        RiddleMill mill = new RiddleMill(3, 2);
        mill.make(1, 5);
        String first = State.clues(mill);
        mill.make(LAST_SEED, 3);
        Check.isFalse("another riddle", State.clues(mill).equals(first));
        mill.make(1, 5);
        Check.equal("the first riddle again", State.clues(mill), first);
    }

    /** With 3 things of one sort 12 clues are possible, with 4 of one sort 23: all of them are the riddle then. */
    private static void fewerThanTwentyFour() {
        made(3, 1, 1, 5, 4, " clues (6 12 0 0 2 -1) (5 10 11 12 0 -1)");
        made(4, 1, 1, 5, 2, " clues (6 10 0 0 1 -1) (5 11 10 12 0 -1)");
        made(4, 1, LAST_SEED, 3, 2, " clues (6 10 0 0 0 -1) (6 12 0 0 1 -1) (3 11 12 0 0 -1)");
    }

    /** The first three would be others with 23 clues at first, the last three with 25. */
    private static void justTwentyFour() {
        made(3, 3, 202, 5, 1,
            " clues (4 11 20 0 1 -1) (1 10 30 0 0 -1) (3 21 32 0 0 -1) (5 12 10 22 0 -1) (2 21 22 0 0 -1)");
        made(3, 3, 678, 5, 1, " clues (6 21 0 0 0 -1) (4 10 21 0 2 -1) (4 10 32 0 1 -1) (5 11 20 31 0 -1)");
        made(4, 2, 424, 5, 1, " clues (4 10 13 0 1 -1) (5 11 13 22 0 -1) (5 10 12 13 0 -1) (2 13 11 0 0 -1)"
            + " (4 11 21 0 2 -1) (6 20 0 0 1 -1)");
        made(3, 3, 2031, 5, 2, " clues (5 30 22 31 0 -1) (4 10 31 0 1 -1) (2 12 22 0 0 -1) (2 31 21 0 0 -1)");
        made(3, 3, 3159, 5, 2, " clues (3 10 12 0 0 -1) (5 21 12 30 0 -1) (2 31 20 0 0 -1) (2 11 12 0 0 -1)");
        made(4, 2, 1862, 5, 2,
            " clues (5 10 20 21 0 -1) (0 12 23 0 0 -1) (2 10 13 0 0 -1) (2 21 10 0 0 -1) (5 11 10 12 0 -1)");
    }

    private static void thinnedOut() {
        for (int size : new int[] {31, 32, 33, 41, 42, 43, 51, 52}) {
            for (int seed = 1; seed <= 12; seed++) {
                RiddleMill mill = new RiddleMill(size / 10, size % 10);
                if (mill.make(seed, 5) == 0) {
                    continue;
                }
                for (int k = 0; k < mill.about(2); k++) {
                    Check.isTrue(size + ", seed " + seed + ": needed(" + k + ")", mill.needed(k));
                }
            }
        }
    }

    public static void main(String[] args) {
        Check.test("12: seed 1", EdgesOfMakingTest::theFirstSeed);
        Check.test("12: seed 2147483646", EdgesOfMakingTest::theLastSeed);
        Check.test("12: seeds below 1", EdgesOfMakingTest::seedsBelowOne);
        Check.test("12: seed 2147483647", EdgesOfMakingTest::seedsAboveTheLast);
        Check.test("12: ratings below 1", EdgesOfMakingTest::ratingsBelowOne);
        Check.test("12: ratings above 5", EdgesOfMakingTest::ratingsAboveFive);
        Check.test("12: no such seed and no such rating", EdgesOfMakingTest::bothWrong);
        Check.test("12: ratings 1 to 5", EdgesOfMakingTest::ratingsOneToFive);
        Check.test("12: 1 to 4 times", EdgesOfMakingTest::oneToFourTimes);
        Check.test("12: no fifth time", EdgesOfMakingTest::noFifthTime);
        Check.test("12: none made", EdgesOfMakingTest::noneMade);
        Check.test("12: made in place of the clues", EdgesOfMakingTest::madeInPlaceOfTheClues);
        Check.test("12: made in place of 30", EdgesOfMakingTest::madeInPlaceOfThirty);
        Check.test("12: made twice", EdgesOfMakingTest::madeTwice);
        Check.test("MAKING: fewer than 24", EdgesOfMakingTest::fewerThanTwentyFour);
        Check.test("MAKING: just 24", EdgesOfMakingTest::justTwentyFour);
        Check.test("MAKING: thinned out", EdgesOfMakingTest::thinnedOut);
        Check.done();
    }
}
