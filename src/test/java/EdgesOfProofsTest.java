/** The edges that promises 8 to 11, and the terms PROOFS and the RATING, name, a test for each. */
public final class EdgesOfProofsTest {
    private static final int NONE = RiddleMill.NONE;
    private static final int LEAST = Integer.MIN_VALUE;
    private static final int GREATEST = Integer.MAX_VALUE;
    private static final int[] SIZES = {31, 32, 33, 41, 42, 43, 51, 52};

    /** A riddle of clues without a speaker, five numbers each. */
    private static RiddleMill riddle(int things, int sorts, int... c) {
        RiddleMill mill = new RiddleMill(things, sorts);
        for (int k = 0; k < c.length; k += 5) {
            mill.clue(c[k], c[k + 1], c[k + 2], c[k + 3], c[k + 4], NONE);
        }
        return mill;
    }

    /** The steps, each as (rule clue thing place), and the grid. */
    private static void proved(RiddleMill mill, int steps, String due) {
        Check.equal("prove()", mill.prove(), steps);
        Check.equal("the proof", State.proof(mill), due);
    }

    private static RiddleMill threeInARow() {
        return riddle(3, 1, 6, 11, 0, 0, 1, 2, 10, 12, 0, 0);
    }

    private static final String THREE_IN_A_ROW =
        " steps (3 0 11 0) (3 0 11 2) (1 -1 10 1) (1 -1 12 1) (3 1 10 2) (1 -1 12 0) grid 1 2 4";

    /** Each thing by a clue of kind 6 at the place of its own number. */
    private static RiddleMill allInOrder(int things, int sorts) {
        RiddleMill mill = new RiddleMill(things, sorts);
        for (int s = 1; s <= sorts; s++) {
            for (int i = 0; i < things; i++) {
                mill.clue(6, 10 * s + i, 0, 0, i, NONE);
            }
        }
        return mill;
    }

    private static void noClues() {
        for (int size : SIZES) {
            RiddleMill mill = new RiddleMill(size / 10, size % 10);
            Check.equal("prove() of " + size, mill.prove(), 0);
            Check.equal("step(0, 0) of " + size, mill.step(0, 0), NONE);
            for (int s = 1; s <= size % 10; s++) {
                for (int i = 0; i < size / 10; i++) {
                    Check.equal("may(" + (10 * s + i) + ")", mill.may(10 * s + i), (1 << size / 10) - 1);
                }
            }
        }
    }

    private static void cluesWithASpeaker() {
        RiddleMill mill = new RiddleMill(3, 1);
        mill.clue(6, 10, 0, 0, 0, 0);
        mill.clue(5, 10, 11, 12, 0, 1);
        proved(mill, 0, " steps grid 7 7 7");
        mill.clue(6, 10, 0, 0, 0, NONE);
        proved(mill, 4, " steps (3 2 10 1) (3 2 10 2) (1 -1 11 0) (1 -1 12 0) grid 1 6 6");
    }

    private static void cluesOfKindNine() {
        proved(riddle(3, 1, 9, 11, 10, 0, 1), 0, " steps grid 7 7 7");
    }

    private static void nowhereByRuleThree() {
        RiddleMill mill = riddle(3, 2, 6, 10, 0, 0, 0, 6, 10, 0, 0, 1, 6, 20, 0, 0, 2);
        proved(mill, 5, " steps (3 0 10 1) (3 0 10 2) (1 -1 11 0) (1 -1 12 0) (3 1 10 0) grid 0 6 6 7 7 7");
        Check.equal("rating()", mill.rating(), 0);
    }

    /** Things 11 and 12 may be at places 0 and 1 alone when 10 is left at 0, and no rule sees that at once. */
    private static void nowhereByRuleOne() {
        RiddleMill mill = new RiddleMill(5, 2);
        for (int i = 0; i < 5; i++) {
            mill.clue(6, 20 + i, 0, 0, i, NONE);
        }
        for (int i = 2; i < 5; i++) {
            mill.clue(1, 11, 20 + i, 0, 0, NONE);
            mill.clue(1, 12, 20 + i, 0, 0, NONE);
        }
        for (int i = 1; i < 5; i++) {
            mill.clue(1, 10, 20 + i, 0, 0, NONE);
        }
        Check.equal("prove()", mill.prove(), 33);
        Check.equal("step 29", State.step(mill, 29), "(3 14 10 4)");
        Check.equal("step 30", State.step(mill, 30), "(1 -1 11 0)");
        Check.equal("step 31", State.step(mill, 31), "(1 -1 12 0)");
        Check.equal("step 32", State.step(mill, 32), "(1 -1 11 1)");
        Check.equal("may(11)", mill.may(11), 0);
        Check.equal("may(13)", mill.may(13), 31);
        Check.equal("rating()", mill.rating(), 0);
    }

    private static void nowhereByRuleFive() {
        RiddleMill mill = allInOrder(3, 1);
        mill.clue(5, 10, 11, 12, 0, NONE);
        Check.equal("prove()", mill.prove(), 7);
        Check.equal("the last step", State.step(mill, 6), "(5 3 10 0)");
        Check.equal("may(10)", mill.may(10), 0);
        Check.equal("may(11)", mill.may(11), 2);
        Check.equal("rating()", mill.rating(), 0);
    }

    private static void mostSteps(int things, int sorts, int steps) {
        RiddleMill mill = allInOrder(things, sorts);
        Check.equal("prove()", mill.prove(), steps);
        Check.equal("none behind the last", mill.step(steps, 0), NONE);
        Check.equal("rating()", mill.rating(), 3);
        mill.clue(7, 10, things * sorts > 5 ? 21 : 11, 12, 0, NONE);
        Check.equal("prove(), one nowhere", mill.prove(), steps + 1);
        Check.equal("the last step", State.step(mill, steps), "(5 " + things * sorts + " 10 0)");
        Check.equal("none behind it", mill.step(steps + 1, 0), NONE);
        Check.equal("may(10)", mill.may(10), 0);
        Check.equal("rating(), one nowhere", mill.rating(), 0);
    }

    private static void theLongestProofs() {
        mostSteps(5, 2, 40);
        mostSteps(4, 3, 36);
        mostSteps(3, 1, 6);
    }

    private static void thirtyClues() {
        RiddleMill mill = Thirty.riddle();
        Check.equal("prove()", mill.prove(), 40);
        Check.equal("the first step", State.step(mill, 0), "(3 0 10 4)");
        int last = 0;
        for (int k = 0; k < 40; k++) {
            last = Math.max(last, mill.step(k, 1));
        }
        Check.equal("the last clue is used", last, 29);
        Check.equal("rating()", mill.rating(), 3);
        mill.drop(29);
        Check.equal("rating() without the last", mill.rating(), 0);
    }

    private static void provedAgain() {
        RiddleMill mill = threeInARow();
        proved(mill, 6, THREE_IN_A_ROW);
        proved(mill, 6, THREE_IN_A_ROW);
        mill.drop(0);
        proved(mill, 2, " steps (3 0 10 2) (3 0 12 0) grid 3 7 6");
        mill.drop(0);
        proved(mill, 0, " steps grid 7 7 7");
    }

    private static void provedAgainBehindNowhere() {
        RiddleMill mill = riddle(3, 1, 6, 10, 0, 0, 0, 6, 10, 0, 0, 1);
        Check.equal("prove(), one nowhere", mill.prove(), 5);
        mill.drop(1);
        proved(mill, 4, " steps (3 0 10 1) (3 0 10 2) (1 -1 11 0) (1 -1 12 0) grid 1 6 6");
    }

    private static void leastRuleFirst() {
        proved(riddle(3, 1, 5, 11, 10, 12, 0, 6, 10, 0, 0, 0), 6,
            " steps (3 1 10 1) (3 1 10 2) (1 -1 11 0) (1 -1 12 0) (5 0 11 2) (1 -1 12 1) grid 1 2 4");
    }

    private static void leastClueFirst() {
        proved(riddle(3, 2, 6, 20, 0, 0, 0, 6, 10, 0, 0, 0), 8, " steps (3 0 20 1) (3 0 20 2) (1 -1 21 0) (1 -1 22 0)"
            + " (3 1 10 1) (3 1 10 2) (1 -1 11 0) (1 -1 12 0) grid 1 6 6 1 6 6");
    }

    private static void leastThingFirst() {
        proved(riddle(3, 2, 2, 20, 10, 0, 0), 2, " steps (3 0 10 0) (3 0 20 2) grid 6 7 7 3 7 7");
    }

    private static void leastPlaceFirst() {
        proved(riddle(4, 1, 4, 10, 11, 0, 3), 8, " steps (3 0 10 1) (3 0 10 2) (3 0 11 1) (3 0 11 2) (4 -1 12 0)"
            + " (4 -1 12 3) (4 -1 13 0) (4 -1 13 3) grid 9 9 6 6");
    }

    private static void theOnlyOneAtAPlace() {
        proved(riddle(3, 1, 2, 10, 11, 0, 0, 2, 10, 12, 0, 0), 4,
            " steps (3 0 10 2) (3 0 11 0) (3 1 12 0) (2 -1 10 1) grid 1 6 6");
    }

    private static void oneSortHasDifferentPlaces() {
        proved(riddle(3, 1, 0, 10, 11, 0, 0), 5,
            " steps (3 0 10 0) (3 0 10 1) (1 -1 11 2) (1 -1 12 2) (3 0 10 2) grid 0 3 3");
        proved(riddle(3, 1, 1, 10, 11, 0, 0), 0, " steps grid 7 7 7");
        proved(riddle(3, 2, 0, 10, 20, 0, 0), 0, " steps grid 7 7 7 7 7 7");
    }

    private static void twoSortsMayShareAPlace() {
        proved(riddle(3, 2, 6, 20, 0, 0, 1, 0, 10, 20, 0, 0), 8, " steps (3 0 20 0) (3 0 20 2) (1 -1 21 1) (1 -1 22 1)"
            + " (3 1 10 0) (3 1 10 2) (1 -1 11 1) (1 -1 12 1) grid 2 5 5 2 5 5");
    }

    private static void eitherWithBothAtOnePlace() {
        RiddleMill both = riddle(3, 3, 6, 10, 0, 0, 0, 6, 30, 0, 0, 0, 8, 20, 10, 30, 0);
        Check.equal("prove(), just one", both.prove(), 9);
        Check.equal("the last step", State.step(both, 8), "(5 2 10 0)");
        Check.equal("may(10)", both.may(10), 0);
        RiddleMill or = riddle(3, 3, 6, 10, 0, 0, 0, 6, 30, 0, 0, 0, 7, 20, 10, 30, 0);
        Check.equal("prove(), one or both", or.prove(), 12);
        Check.equal("may(20)", or.may(20), 1);
    }

    private static void orWithOneOfItsOwnSort() {
        for (int kind : new int[] {7, 8}) {
            proved(riddle(3, 2, 6, 20, 0, 0, 2, kind, 10, 11, 20, 0), 8, " steps (3 0 20 0) (3 0 20 1) (1 -1 21 2)"
                + " (1 -1 22 2) (5 1 10 0) (5 1 10 1) (1 -1 11 2) (1 -1 12 2) grid 4 3 3 4 3 3");
            proved(riddle(3, 2, 6, 20, 0, 0, 2, kind, 10, 20, 11, 0), 8, " steps (3 0 20 0) (3 0 20 1) (1 -1 21 2)"
                + " (1 -1 22 2) (5 1 10 0) (5 1 10 1) (1 -1 11 2) (1 -1 12 2) grid 4 3 3 4 3 3");
        }
    }

    private static void noProofYet() {
        RiddleMill mill = threeInARow();
        for (int what = 0; what < 4; what++) {
            Check.equal("step(0, " + what + ")", mill.step(0, what), NONE);
        }
        for (int x = 10; x < 13; x++) {
            Check.equal("may(" + x + ")", mill.may(x), 0);
        }
    }

    private static void ratingAndMakingAreNoProof() {
        RiddleMill mill = threeInARow();
        Check.equal("rating()", mill.rating(), 3);
        Check.equal("make(1, 3)", mill.make(1, 3), 2);
        Check.equal("step(0, 0)", mill.step(0, 0), NONE);
        Check.equal("may(10)", mill.may(10), 0);
    }

    private static void noSuchStep() {
        RiddleMill mill = threeInARow();
        mill.prove();
        for (int k : new int[] {LEAST, -1, 6, 7, 49, 50, 51, GREATEST}) {
            for (int what = 0; what < 4; what++) {
                Check.equal("step(" + k + ", " + what + ")", mill.step(k, what), NONE);
            }
        }
    }

    private static void anotherWhatOfAStep() {
        RiddleMill mill = threeInARow();
        mill.prove();
        for (int what : new int[] {LEAST, -1, 4, 5, GREATEST}) {
            Check.equal("step(0, " + what + ")", mill.step(0, what), NONE);
            Check.equal("step(5, " + what + ")", mill.step(5, what), NONE);
        }
    }

    private static void stepsWithoutAClue() {
        RiddleMill mill = threeInARow();
        mill.prove();
        Check.equal("rule 3 has clue 0", State.step(mill, 0), "(3 0 11 0)");
        Check.equal("rule 1 has none", State.step(mill, 2), "(1 -1 10 1)");
        RiddleMill only = riddle(3, 1, 2, 10, 11, 0, 0, 2, 10, 12, 0, 0);
        only.prove();
        Check.equal("rule 2 has none", State.step(only, 3), "(2 -1 10 1)");
        RiddleMill pair = riddle(4, 1, 4, 10, 11, 0, 3);
        pair.prove();
        Check.equal("rule 4 has none", State.step(pair, 4), "(4 -1 12 0)");
        RiddleMill between = riddle(3, 1, 5, 10, 11, 12, 0);
        between.prove();
        Check.equal("rule 5 has clue 0", State.step(between, 0), "(5 0 10 0)");
    }

    private static void cluesThatComeAndGo() {
        RiddleMill mill = threeInARow();
        mill.name(10, Words.pack("a"));
        mill.prove();
        mill.drop(0);
        Check.equal("behind drop()", State.proof(mill), THREE_IN_A_ROW);
        mill.clue(6, 10, 0, 0, 2, NONE);
        Check.equal("behind clue()", State.proof(mill), THREE_IN_A_ROW);
        mill.rating();
        Check.equal("behind rating()", State.proof(mill), THREE_IN_A_ROW);
        Words.type(mill, "a is at 0");
        mill.read();
        Check.equal("behind read()", State.proof(mill), THREE_IN_A_ROW);
        mill.make(1, 3);
        Check.equal("behind make()", State.proof(mill), THREE_IN_A_ROW);
        mill.drop(0);
        mill.drop(0);
        Check.equal("without clues", State.proof(mill), THREE_IN_A_ROW);
    }

    private static void noSuchThing() {
        for (int size : SIZES) {
            int n = size / 10;
            int k = size % 10;
            RiddleMill mill = new RiddleMill(n, k);
            mill.prove();
            for (int x : new int[] {LEAST, -11, -10, -1, 0, 1, 2, 9, 10 + n, 19, 10 * k + n, 10 * k + 9, 10 * k + 10,
                39, 40, 74, 266, GREATEST}) {
                Check.equal("may(" + x + ") of " + size, mill.may(x), 0);
            }
        }
    }

    private static void placeZeroIsTheLowestBit() {
        RiddleMill mill = allInOrder(5, 2);
        mill.prove();
        for (int i = 0; i < 5; i++) {
            Check.equal("may(" + (10 + i) + ")", mill.may(10 + i), 1 << i);
            Check.equal("may(" + (20 + i) + ")", mill.may(20 + i), 1 << i);
        }
    }

    private static void ratingWithoutClues() {
        for (int size : SIZES) {
            Check.equal("rating() of " + size, new RiddleMill(size / 10, size % 10).rating(), 0);
        }
    }

    private static void ratingWithoutAnyStep() {
        RiddleMill mill = new RiddleMill(3, 1);
        for (int i = 0; i < 3; i++) {
            mill.clue(6, 10 + i, 0, 0, i, 0);
        }
        mill.clue(1, 10, 11, 0, 0, NONE);
        mill.clue(9, 10, 11, 0, 1, NONE);
        Check.equal("prove()", mill.prove(), 0);
        Check.equal("rating()", mill.rating(), 0);
    }

    private static void ratingOfAProofThatStops() {
        Check.equal("one thing of three", riddle(3, 1, 6, 10, 0, 0, 0).rating(), 0);
        Check.equal("one sort of two", riddle(3, 2, 6, 10, 0, 0, 0, 6, 11, 0, 0, 1).rating(), 0);
        RiddleMill last = riddle(3, 2, 6, 10, 0, 0, 0, 6, 11, 0, 0, 1, 6, 20, 0, 0, 0);
        Check.equal("all but two of six", last.rating(), 0);
        last.clue(6, 21, 0, 0, 1, NONE);
        Check.equal("all", last.rating(), 3);
    }

    private static void ratingOfOneAnswerThatIsNotProved() {
        RiddleMill mill = riddle(3, 2, 6, 10, 0, 0, 0, 6, 11, 0, 0, 1, 6, 20, 0, 0, 0, 9, 11, 12, 0, 2);
        Check.equal("answers", mill.count(9), 4);
        Check.equal("rating()", mill.rating(), 0);
    }

    private static void ratingWithAThingNowhere() {
        Check.equal("rating()", riddle(3, 1, 6, 10, 0, 0, 0, 6, 10, 0, 0, 1).rating(), 0);
        RiddleMill late = allInOrder(3, 1);
        late.clue(5, 10, 11, 12, 0, NONE);
        Check.equal("rating(), nowhere at last", late.rating(), 0);
    }

    private static void theGreatestRuleThatIsUsed() {
        Check.equal("rule 3, the last step by rule 1", threeInARow().rating(), 3);
        RiddleMill four = riddle(5, 1, 2, 11, 12, 0, 0, 4, 12, 14, 0, 2, 2, 13, 12, 0, 0, 4, 13, 14, 0, 3);
        Check.equal("rule 4", four.rating(), 4);
        Check.equal("its steps", four.prove(), 20);
        Check.isTrue("its last step is by a lesser rule", four.step(19, 0) < 4);
        RiddleMill five = riddle(3, 1, 6, 12, 0, 0, 2, 5, 10, 11, 12, 0);
        Check.equal("rule 5", five.rating(), 5);
        Check.equal("its steps", five.prove(), 6);
        Check.equal("its last step", five.step(5, 0), 1);
    }

    private static void ratingOfTheCluesThatThereAre() {
        RiddleMill mill = threeInARow();
        Check.equal("rating()", mill.rating(), 3);
        mill.drop(1);
        Check.equal("behind drop()", mill.rating(), 0);
        mill.clue(5, 11, 10, 12, 0, NONE);
        Check.equal("one that says nothing new", mill.rating(), 0);
        mill.clue(2, 10, 12, 0, 0, NONE);
        Check.equal("behind clue()", mill.rating(), 3);
        mill.drop(0);
        Check.equal("without the first", mill.rating(), 5);
        Check.equal("the clues", State.clues(mill), " clues (5 11 10 12 0 -1) (2 10 12 0 0 -1)");
    }

    public static void main(String[] args) {
        Check.test("8: no clues", EdgesOfProofsTest::noClues);
        Check.test("8: clues with a speaker", EdgesOfProofsTest::cluesWithASpeaker);
        Check.test("8: clues of kind 9", EdgesOfProofsTest::cluesOfKindNine);
        Check.test("8: nowhere by rule 3", EdgesOfProofsTest::nowhereByRuleThree);
        Check.test("8: nowhere by rule 1", EdgesOfProofsTest::nowhereByRuleOne);
        Check.test("8: nowhere by rule 5", EdgesOfProofsTest::nowhereByRuleFive);
        Check.test("8: the longest proofs", EdgesOfProofsTest::theLongestProofs);
        Check.test("8, 11: 30 clues", EdgesOfProofsTest::thirtyClues);
        Check.test("8: again", EdgesOfProofsTest::provedAgain);
        Check.test("8: again behind nowhere", EdgesOfProofsTest::provedAgainBehindNowhere);
        Check.test("PROOFS: the least rule", EdgesOfProofsTest::leastRuleFirst);
        Check.test("PROOFS: the least clue", EdgesOfProofsTest::leastClueFirst);
        Check.test("PROOFS: the least thing", EdgesOfProofsTest::leastThingFirst);
        Check.test("PROOFS: the least place, rule 4", EdgesOfProofsTest::leastPlaceFirst);
        Check.test("PROOFS: rule 2", EdgesOfProofsTest::theOnlyOneAtAPlace);
        Check.test("PROOFS: rule 3, one sort", EdgesOfProofsTest::oneSortHasDifferentPlaces);
        Check.test("PROOFS: rule 3, two sorts", EdgesOfProofsTest::twoSortsMayShareAPlace);
        Check.test("PROOFS: rule 5, both at one place", EdgesOfProofsTest::eitherWithBothAtOnePlace);
        Check.test("PROOFS: rule 5, one sort", EdgesOfProofsTest::orWithOneOfItsOwnSort);
        Check.test("9, 10: none was made", EdgesOfProofsTest::noProofYet);
        Check.test("9, 10: rating() and make() are none", EdgesOfProofsTest::ratingAndMakingAreNoProof);
        Check.test("9: none such", EdgesOfProofsTest::noSuchStep);
        Check.test("9: another what", EdgesOfProofsTest::anotherWhatOfAStep);
        Check.test("9: NONE for 1, 2, 4", EdgesOfProofsTest::stepsWithoutAClue);
        Check.test("9: clues that come and go", EdgesOfProofsTest::cluesThatComeAndGo);
        Check.test("10: no such thing", EdgesOfProofsTest::noSuchThing);
        Check.test("10: place 0 the lowest bit", EdgesOfProofsTest::placeZeroIsTheLowestBit);
        Check.test("11: no clues", EdgesOfProofsTest::ratingWithoutClues);
        Check.test("11: no step", EdgesOfProofsTest::ratingWithoutAnyStep);
        Check.test("11: a proof that stops", EdgesOfProofsTest::ratingOfAProofThatStops);
        Check.test("11: one answer, no proof", EdgesOfProofsTest::ratingOfOneAnswerThatIsNotProved);
        Check.test("11: a thing nowhere", EdgesOfProofsTest::ratingWithAThingNowhere);
        Check.test("11: the greatest rule", EdgesOfProofsTest::theGreatestRuleThatIsUsed);
        Check.test("11: the clues that there are", EdgesOfProofsTest::ratingOfTheCluesThatThereAre);
        Check.done();
    }
}
