import java.util.Arrays;

/** The edges that promises 1, 2, 3, 4 and 19 name, a test for each. */
public final class EdgesOfCluesTest {
    private static final Class<IllegalArgumentException> WRONG = IllegalArgumentException.class;
    private static final Class<IllegalStateException> STATE = IllegalStateException.class;
    private static final Class<IndexOutOfBoundsException> INDEX = IndexOutOfBoundsException.class;
    private static final int NONE = RiddleMill.NONE;
    private static final int LEAST = Integer.MIN_VALUE;
    private static final int GREATEST = Integer.MAX_VALUE;

    /** All sizes that there are. */
    private static final int[] SIZES = {31, 32, 33, 41, 42, 43, 51, 52};
    private static final int[] TWO_THINGS = {0, 1, 2, 3, 4, 9};
    private static final int[] THREE_THINGS = {5, 7, 8};

    private static void size(int things, int sorts, int n, int k) {
        RiddleMill mill = new RiddleMill(things, sorts);
        String what = "RiddleMill(" + things + ", " + sorts + ")";
        Check.equal(what + " N", mill.about(0), n);
        Check.equal(what + " K", mill.about(1), k);
    }

    private static void thingsBelowThree() {
        for (int things : new int[] {2, 1, 0, -1, LEAST}) {
            size(things, 1, 3, 1);
            size(things, 2, 3, 2);
            size(things, 3, 3, 3);
        }
    }

    private static void thingsThreeToFive() {
        size(3, 2, 3, 2);
        size(4, 2, 4, 2);
        size(5, 2, 5, 2);
    }

    private static void thingsAboveFive() {
        for (int things : new int[] {6, 7, 100, GREATEST}) {
            size(things, 1, 5, 1);
            size(things, 2, 5, 2);
        }
    }

    private static void sortsBelowOne() {
        for (int sorts : new int[] {0, -1, LEAST}) {
            size(3, sorts, 3, 1);
            size(4, sorts, 4, 1);
            size(5, sorts, 5, 1);
        }
    }

    private static void sortsOneToThree() {
        for (int sorts = 1; sorts <= 3; sorts++) {
            size(3, sorts, 3, sorts);
            size(4, sorts, 4, sorts);
        }
    }

    private static void sortsAboveThree() {
        for (int sorts : new int[] {4, 5, 100, GREATEST}) {
            size(3, sorts, 3, 3);
            size(4, sorts, 4, 3);
            size(2, sorts, 3, 3);
        }
    }

    private static void sortsAboveTwoWithFive() {
        for (int sorts : new int[] {3, 4, GREATEST}) {
            size(5, sorts, 5, 2);
            size(6, sorts, 5, 2);
            size(GREATEST, sorts, 5, 2);
        }
    }

    private static void noCluesAtFirst() {
        for (int size : SIZES) {
            RiddleMill mill = new RiddleMill(size / 10, size % 10);
            Check.equal("clues of " + size, mill.about(2), 0);
            Check.equal("clue 0 of " + size, mill.clueAt(0, 0), NONE);
        }
    }

    private static void noNamesAtFirst() {
        RiddleMill mill = new RiddleMill(3, 2);
        for (int x : new int[] {10, 11, 12, 20, 21, 22}) {
            int k = mill.clue(6, x, 0, 0, 0, NONE);
            Check.equal("print of thing " + x, mill.print(k), 0);
        }
    }

    private static RiddleMill small() {
        RiddleMill mill = new RiddleMill(3, 2);
        mill.clue(6, 10, 0, 0, 1, NONE);
        mill.clue(7, 11, 20, 21, 0, 1);
        return mill;
    }

    private static void refused(RiddleMill mill, Class<? extends RuntimeException> due, int... c) {
        String what = "clue" + Arrays.toString(c);
        int clues = mill.about(2);
        Check.fails(what, due, () -> mill.clue(c[0], c[1], c[2], c[3], c[4], c[5]));
        Check.equal("clues behind " + what, mill.about(2), clues);
    }

    private static void taken(RiddleMill mill, int... c) {
        String what = "clue" + Arrays.toString(c);
        int k = mill.about(2);
        Check.equal(what, mill.clue(c[0], c[1], c[2], c[3], c[4], c[5]), k);
        Check.equal(what + " as it came", State.clue(mill, k),
            Arrays.toString(c).replace("[", "(").replace("]", ")").replace(",", ""));
    }

    private static void noSuchKind() {
        for (int kind : new int[] {-1, 10, 11, 15, 16, 26, 256, LEAST, GREATEST}) {
            refused(small(), WRONG, kind, 10, 20, 0, 0, NONE);
            refused(small(), WRONG, kind, 10, 20, 21, 0, NONE);
            refused(small(), WRONG, kind, 10, 0, 0, 1, NONE);
        }
    }

    /** Numbers that are no things, each on its own side of an edge. */
    private static int[] noThings(int n, int k) {
        return new int[] {LEAST, -10, -1, 1, 9, 10 + n, 19, 10 * k + n, 10 * k + 9, 10 * k + 10, 40, 74, 266, 1034,
            GREATEST};
    }

    private static void noSuchX() {
        for (int size : SIZES) {
            for (int x : noThings(size / 10, size % 10)) {
                RiddleMill mill = new RiddleMill(size / 10, size % 10);
                refused(mill, WRONG, 6, x, 0, 0, 0, NONE);
                for (int kind : TWO_THINGS) {
                    refused(mill, WRONG, kind, x, 10, 0, kind == 4 || kind == 9 ? 1 : 0, NONE);
                }
                for (int kind : THREE_THINGS) {
                    refused(mill, WRONG, kind, x, 10, 11, 0, NONE);
                }
            }
        }
    }

    private static void noSuchY() {
        for (int size : SIZES) {
            for (int y : noThings(size / 10, size % 10)) {
                RiddleMill mill = new RiddleMill(size / 10, size % 10);
                for (int kind : TWO_THINGS) {
                    refused(mill, WRONG, kind, 10, y, 0, kind == 4 || kind == 9 ? 1 : 0, NONE);
                }
                for (int kind : THREE_THINGS) {
                    refused(mill, WRONG, kind, 10, y, 11, 0, NONE);
                }
            }
        }
    }

    private static void noSuchZ() {
        for (int size : SIZES) {
            for (int z : noThings(size / 10, size % 10)) {
                RiddleMill mill = new RiddleMill(size / 10, size % 10);
                for (int kind : THREE_THINGS) {
                    refused(mill, WRONG, kind, 10, 11, z, 0, NONE);
                }
            }
        }
    }

    private static void eachThing() {
        for (int size : SIZES) {
            RiddleMill mill = new RiddleMill(size / 10, size % 10);
            for (int s = 1; s <= size % 10; s++) {
                for (int i = 0; i < size / 10; i++) {
                    taken(mill, 6, 10 * s + i, 0, 0, 0, NONE);
                }
            }
        }
    }

    private static void xIsZero() {
        refused(small(), WRONG, 6, 0, 0, 0, 0, NONE);
        refused(small(), WRONG, 0, 0, 10, 0, 0, NONE);
        refused(small(), WRONG, 5, 0, 10, 11, 0, NONE);
    }

    private static void yIsLacking() {
        for (int kind : TWO_THINGS) {
            refused(small(), WRONG, kind, 10, 0, 0, kind == 4 || kind == 9 ? 1 : 0, NONE);
        }
        for (int kind : THREE_THINGS) {
            refused(small(), WRONG, kind, 10, 0, 11, 0, NONE);
        }
    }

    private static void zIsLacking() {
        for (int kind : THREE_THINGS) {
            refused(small(), WRONG, kind, 10, 11, 0, 0, NONE);
        }
    }

    private static void sameXAndY() {
        for (int kind : TWO_THINGS) {
            refused(small(), WRONG, kind, 20, 20, 0, kind == 4 || kind == 9 ? 1 : 0, NONE);
        }
        for (int kind : THREE_THINGS) {
            refused(small(), WRONG, kind, 20, 20, 10, 0, NONE);
        }
    }

    private static void sameXAndZ() {
        for (int kind : THREE_THINGS) {
            refused(small(), WRONG, kind, 20, 10, 20, 0, NONE);
        }
    }

    private static void sameYAndZ() {
        for (int kind : THREE_THINGS) {
            refused(small(), WRONG, kind, 20, 10, 10, 0, NONE);
        }
    }

    private static void zWhereNoneIsTold() {
        for (int z : new int[] {LEAST, -1, 1, 12, 20, 64, 256, GREATEST}) {
            for (int kind : TWO_THINGS) {
                refused(small(), WRONG, kind, 10, 11, z, kind == 4 || kind == 9 ? 1 : 0, NONE);
            }
            refused(small(), WRONG, 6, 10, 0, z, 0, NONE);
        }
    }

    private static void yWhereNoneIsTold() {
        for (int y : new int[] {LEAST, -1, 1, 10, 11, 20, 64, 256, GREATEST}) {
            refused(small(), WRONG, 6, 10, y, 0, 0, NONE);
        }
    }

    private static void dWhereNoneIsTold() {
        for (int d : new int[] {LEAST, -1, 1, 2, 16, 64, 256, GREATEST}) {
            for (int kind = 0; kind <= 3; kind++) {
                refused(small(), WRONG, kind, 10, 11, 0, d, NONE);
            }
            for (int kind : THREE_THINGS) {
                refused(small(), WRONG, kind, 10, 11, 12, d, NONE);
            }
        }
    }

    private static void dOfKindFour() {
        for (int size : SIZES) {
            int n = size / 10;
            RiddleMill mill = new RiddleMill(n, size % 10);
            for (int d : new int[] {LEAST, -1, 0, n, n + 1, 17, GREATEST}) {
                refused(mill, WRONG, 4, 10, 11, 0, d, NONE);
            }
            for (int d = 1; d <= n - 1; d++) {
                taken(mill, 4, 10, 11, 0, d, NONE);
            }
        }
    }

    private static void dOfKindSix() {
        for (int size : SIZES) {
            int n = size / 10;
            RiddleMill mill = new RiddleMill(n, size % 10);
            for (int d : new int[] {LEAST, -1, n, n + 1, 16, GREATEST}) {
                refused(mill, WRONG, 6, 10, 0, 0, d, NONE);
            }
            for (int d = 0; d <= n - 1; d++) {
                taken(mill, 6, 10, 0, 0, d, NONE);
            }
        }
    }

    private static void dOfKindNine() {
        for (int size : SIZES) {
            int k = size % 10;
            RiddleMill mill = new RiddleMill(size / 10, k);
            for (int d : new int[] {LEAST, -1, 0, k + 1, k + 2, 17, GREATEST}) {
                refused(mill, WRONG, 9, 10, 11, 0, d, NONE);
            }
            for (int d = 1; d <= k; d++) {
                taken(mill, 9, 10, 11, 0, d, NONE);
            }
        }
    }

    private static void speakers() {
        for (int speaker : new int[] {LEAST, -3, -2, 2, 3, 4, 10, GREATEST}) {
            refused(small(), WRONG, 0, 10, 20, 0, 0, speaker);
        }
        RiddleMill mill = small();
        for (int speaker : new int[] {NONE, 0, 1}) {
            taken(mill, 0, 10, 20, 0, 0, speaker);
        }
    }

    /** Thirty clues, none like another one, and none of kind 6. */
    private static RiddleMill full() {
        RiddleMill mill = new RiddleMill(5, 2);
        for (int k = 0; k < 30; k++) {
            Check.equal("clue " + k, mill.clue(k % 3, 10 + k / 3 % 5, 20 + k / 15, 0, 0, NONE), k);
        }
        return mill;
    }

    private static void thirtyClues() {
        RiddleMill mill = full();
        Check.equal("clues", mill.about(2), 30);
        String before = State.clues(mill);
        refused(mill, STATE, 6, 10, 0, 0, 0, NONE);
        Check.equal("the clues", State.clues(mill), before);
    }

    private static void thirtyCluesAndOneGone() {
        RiddleMill mill = full();
        mill.drop(0);
        Check.equal("the 30th again", mill.clue(6, 10, 0, 0, 0, NONE), 29);
        refused(mill, STATE, 6, 11, 0, 0, 0, NONE);
    }

    private static void thirtyCluesAndOneLikeIt() {
        refused(full(), STATE, 0, 10, 20, 0, 0, NONE);
    }

    private static void thirtyCluesAndNotAsTold() {
        refused(full(), WRONG, 6, 10, 0, 0, 5, NONE);
    }

    private static void oneJustLikeIt() {
        int[][] all = {{0, 10, 20, 0, 0, NONE}, {1, 10, 20, 0, 0, 0}, {2, 10, 20, 0, 0, 1}, {3, 10, 20, 0, 0, NONE},
            {4, 10, 20, 0, 1, 0}, {5, 10, 20, 21, 0, 1}, {6, 10, 0, 0, 0, NONE}, {7, 10, 20, 21, 0, 0},
            {8, 10, 20, 21, 0, 1}, {9, 10, 20, 0, 2, NONE}};
        RiddleMill mill = new RiddleMill(3, 2);
        for (int[] c : all) {
            taken(mill, c);
        }
        for (int[] c : all) {
            refused(mill, STATE, c);
        }
    }

    private static void oneAlmostLikeIt() {
        RiddleMill mill = new RiddleMill(3, 2);
        taken(mill, 7, 10, 20, 21, 0, NONE);
        taken(mill, 8, 10, 20, 21, 0, NONE);
        taken(mill, 7, 11, 20, 21, 0, NONE);
        taken(mill, 7, 10, 22, 21, 0, NONE);
        taken(mill, 7, 10, 20, 22, 0, NONE);
        taken(mill, 7, 10, 21, 20, 0, NONE);
        taken(mill, 7, 10, 20, 21, 0, 0);
        taken(mill, 7, 10, 20, 21, 0, 1);
        taken(mill, 0, 10, 20, 0, 0, NONE);
        taken(mill, 0, 20, 10, 0, 0, NONE);
        taken(mill, 4, 10, 20, 0, 1, NONE);
        taken(mill, 4, 10, 20, 0, 2, NONE);
    }

    private static void oneLikeItThatIsGone() {
        RiddleMill mill = small();
        mill.drop(0);
        Check.equal("clue again", mill.clue(6, 10, 0, 0, 1, NONE), 1);
    }

    private static void refusedClueChangesNothing() {
        RiddleMill mill = small();
        mill.prove();
        String before = State.of(mill);
        refused(mill, WRONG, 6, 10, 0, 0, 3, NONE);
        refused(mill, STATE, 6, 10, 0, 0, 1, NONE);
        Check.equal("all else", State.of(mill), before);
    }

    private static void dropped(RiddleMill mill, int k, String due) {
        mill.drop(k);
        Check.equal("the clues behind drop(" + k + ")", State.clues(mill), due);
    }

    private static void noSuchClueToDrop() {
        RiddleMill mill = small();
        String before = State.of(mill);
        for (int k : new int[] {LEAST, -1, 2, 3, 29, 30, GREATEST}) {
            Check.fails("drop(" + k + ")", INDEX, () -> drop(mill, k));
        }
        Check.equal("all", State.of(mill), before);
    }

    private static int drop(RiddleMill mill, int k) {
        mill.drop(k);
        return 0;
    }

    private static void noClueToDrop() {
        RiddleMill mill = new RiddleMill(3, 2);
        Check.fails("drop(0)", INDEX, () -> drop(mill, 0));
        mill.clue(6, 10, 0, 0, 1, NONE);
        dropped(mill, 0, " clues");
        Check.fails("drop(0) of the last that went", INDEX, () -> drop(mill, 0));
        Check.equal("clues", mill.about(2), 0);
    }

    private static void firstMiddleAndLastDropped() {
        RiddleMill mill = new RiddleMill(3, 1);
        for (int d = 0; d < 3; d++) {
            mill.clue(6, 10, 0, 0, d, NONE);
        }
        mill.clue(2, 10, 11, 0, 0, 1);
        dropped(mill, 1, " clues (6 10 0 0 0 -1) (6 10 0 0 2 -1) (2 10 11 0 0 1)");
        dropped(mill, 0, " clues (6 10 0 0 2 -1) (2 10 11 0 0 1)");
        dropped(mill, 1, " clues (6 10 0 0 2 -1)");
    }

    private static void lastOfThirtyDropped() {
        RiddleMill mill = full();
        Check.fails("drop(30)", INDEX, () -> drop(mill, 30));
        mill.drop(29);
        Check.equal("clues", mill.about(2), 29);
        Check.equal("clue 28", State.clue(mill, 28), "(1 14 21 0 0 -1)");
        Check.equal("clue 29", mill.clueAt(29, 0), NONE);
    }

    private static void firstOfThirtyDropped() {
        RiddleMill mill = full();
        String before = State.clues(mill);
        dropped(mill, 0, before.replace(" (0 10 20 0 0 -1)", ""));
    }

    private static void noSuchClueToLookAt() {
        RiddleMill mill = small();
        for (int k : new int[] {LEAST, -1, 2, 29, 30, GREATEST}) {
            for (int what = 0; what < 6; what++) {
                Check.equal("clueAt(" + k + ", " + what + ")", mill.clueAt(k, what), NONE);
            }
        }
        Check.equal("clueAt(30, 0) of 30", full().clueAt(30, 0), NONE);
        Check.equal("clueAt(29, 0) of 30", full().clueAt(29, 0), 2);
    }

    private static void anotherWhatOfAClue() {
        RiddleMill mill = small();
        for (int what : new int[] {LEAST, -1, 6, 7, GREATEST}) {
            Check.equal("clueAt(1, " + what + ")", mill.clueAt(1, what), NONE);
        }
    }

    private static void partsThatAClueLacks() {
        RiddleMill mill = small();
        Check.equal("a clue of kind 6", State.clue(mill, 0), "(6 10 0 0 1 -1)");
        Check.equal("a clue of kind 7", State.clue(mill, 1), "(7 11 20 21 0 1)");
    }

    private static void anotherWhatOfAll() {
        for (int what : new int[] {LEAST, -1, 3, 4, GREATEST}) {
            Check.equal("about(" + what + ")", small().about(what), NONE);
        }
    }

    private static void cluesCounted() {
        Check.equal("none", new RiddleMill(3, 2).about(2), 0);
        RiddleMill mill = full();
        Check.equal("thirty", mill.about(2), 30);
        mill.drop(7);
        Check.equal("one gone", mill.about(2), 29);
    }

    public static void main(String[] args) {
        Check.test("1: things below 3", EdgesOfCluesTest::thingsBelowThree);
        Check.test("1: things 3 to 5", EdgesOfCluesTest::thingsThreeToFive);
        Check.test("1: things above 5", EdgesOfCluesTest::thingsAboveFive);
        Check.test("1: sorts below 1", EdgesOfCluesTest::sortsBelowOne);
        Check.test("1: sorts 1 to 3", EdgesOfCluesTest::sortsOneToThree);
        Check.test("1: sorts above 3", EdgesOfCluesTest::sortsAboveThree);
        Check.test("1: sorts above 2 with N 5", EdgesOfCluesTest::sortsAboveTwoWithFive);
        Check.test("1: no clues", EdgesOfCluesTest::noCluesAtFirst);
        Check.test("1: no names", EdgesOfCluesTest::noNamesAtFirst);
        Check.test("2: no such kind", EdgesOfCluesTest::noSuchKind);
        Check.test("2: x is no thing", EdgesOfCluesTest::noSuchX);
        Check.test("2: y is no thing", EdgesOfCluesTest::noSuchY);
        Check.test("2: z is no thing", EdgesOfCluesTest::noSuchZ);
        Check.test("2: each thing", EdgesOfCluesTest::eachThing);
        Check.test("2: x is 0", EdgesOfCluesTest::xIsZero);
        Check.test("2: y is lacking", EdgesOfCluesTest::yIsLacking);
        Check.test("2: z is lacking", EdgesOfCluesTest::zIsLacking);
        Check.test("2: x and y the same", EdgesOfCluesTest::sameXAndY);
        Check.test("2: x and z the same", EdgesOfCluesTest::sameXAndZ);
        Check.test("2: y and z the same", EdgesOfCluesTest::sameYAndZ);
        Check.test("2: z where it is 0", EdgesOfCluesTest::zWhereNoneIsTold);
        Check.test("2: y where it is 0", EdgesOfCluesTest::yWhereNoneIsTold);
        Check.test("2: d where it is 0", EdgesOfCluesTest::dWhereNoneIsTold);
        Check.test("2: d of kind 4", EdgesOfCluesTest::dOfKindFour);
        Check.test("2: d of kind 6", EdgesOfCluesTest::dOfKindSix);
        Check.test("2: d of kind 9", EdgesOfCluesTest::dOfKindNine);
        Check.test("2: speakers", EdgesOfCluesTest::speakers);
        Check.test("2: 30 clues", EdgesOfCluesTest::thirtyClues);
        Check.test("2: 30 clues, one gone", EdgesOfCluesTest::thirtyCluesAndOneGone);
        Check.test("2: 30 clues, one just like it", EdgesOfCluesTest::thirtyCluesAndOneLikeIt);
        Check.test("2: 30 clues, not as told", EdgesOfCluesTest::thirtyCluesAndNotAsTold);
        Check.test("2: one just like it", EdgesOfCluesTest::oneJustLikeIt);
        Check.test("2: one almost like it", EdgesOfCluesTest::oneAlmostLikeIt);
        Check.test("2: one like it that is gone", EdgesOfCluesTest::oneLikeItThatIsGone);
        Check.test("2: a refused one changes nothing", EdgesOfCluesTest::refusedClueChangesNothing);
        Check.test("3: none such", EdgesOfCluesTest::noSuchClueToDrop);
        Check.test("3: none at all", EdgesOfCluesTest::noClueToDrop);
        Check.test("3: the first, the middle, the last", EdgesOfCluesTest::firstMiddleAndLastDropped);
        Check.test("3: the last of 30", EdgesOfCluesTest::lastOfThirtyDropped);
        Check.test("3: the first of 30", EdgesOfCluesTest::firstOfThirtyDropped);
        Check.test("4: none such", EdgesOfCluesTest::noSuchClueToLookAt);
        Check.test("4: another what", EdgesOfCluesTest::anotherWhatOfAClue);
        Check.test("4: parts that a clue lacks", EdgesOfCluesTest::partsThatAClueLacks);
        Check.test("19: another what", EdgesOfCluesTest::anotherWhatOfAll);
        Check.test("19: clues", EdgesOfCluesTest::cluesCounted);
        Check.done();
    }
}
