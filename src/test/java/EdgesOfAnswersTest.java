/** The edges that promises 5, 6 and 7, and the terms CLUES and ANSWERS, name, a test for each. */
public final class EdgesOfAnswersTest {
    private static final int NONE = RiddleMill.NONE;
    private static final int LEAST = Integer.MIN_VALUE;
    private static final int GREATEST = Integer.MAX_VALUE;

    /** A riddle of clues, six numbers each. */
    private static RiddleMill riddle(int things, int sorts, int... c) {
        RiddleMill mill = new RiddleMill(things, sorts);
        for (int k = 0; k < c.length; k += 6) {
            mill.clue(c[k], c[k + 1], c[k + 2], c[k + 3], c[k + 4], c[k + 5]);
        }
        return mill;
    }

    private static RiddleMill impossible() {
        return riddle(3, 1, 6, 10, 0, 0, 0, NONE, 6, 10, 0, 0, 1, NONE);
    }

    private static void counts(String what, RiddleMill mill, int due) {
        Check.equal("count of " + what, mill.count(GREATEST), due);
    }

    private static void limitBelowZero() {
        for (int limit : new int[] {-1, -2, LEAST}) {
            Check.fails("count(" + limit + ")", IllegalArgumentException.class, () -> riddle(3, 1).count(limit));
            Check.fails("count(" + limit + ") without an answer", IllegalArgumentException.class,
                () -> impossible().count(limit));
        }
        RiddleMill mill = riddle(3, 1, 6, 10, 0, 0, 0, NONE);
        String before = State.of(mill);
        Check.fails("count(-1)", IllegalArgumentException.class, () -> mill.count(-1));
        Check.equal("all", State.of(mill), before);
    }

    private static void limitZero() {
        Check.equal("without clues", riddle(4, 3).count(0), 0);
        Check.equal("with a clue", riddle(3, 1, 6, 10, 0, 0, 0, NONE).count(0), 0);
        Check.equal("without an answer", impossible().count(0), 0);
    }

    private static void limits(RiddleMill mill, int answers) {
        for (int limit : new int[] {1, 2, 3, 4, 5, answers - 1, answers, answers + 1, answers + 2, GREATEST}) {
            Check.equal("count(" + limit + ") of " + answers, mill.count(limit), Math.min(limit, answers));
        }
    }

    private static void limitJustTheNumberWithoutClues() {
        limits(riddle(3, 1), 24);
        limits(riddle(3, 2), 144);
        limits(riddle(3, 3), 864);
        limits(riddle(4, 1), 96);
        limits(riddle(4, 2), 2304);
        limits(riddle(4, 3), 55296);
        limits(riddle(5, 1), 480);
        limits(riddle(5, 2), 57600);
    }

    private static void limitJustTheNumberWithClues() {
        limits(riddle(3, 1, 6, 10, 0, 0, 1, NONE), 8);
        limits(riddle(3, 1, 6, 10, 0, 0, 1, NONE, 2, 11, 12, 0, 0, NONE), 4);
    }

    private static void limitJustTheNumberWithSpeakers() {
        limits(riddle(3, 1, 6, 10, 0, 0, 1, 0), 12);
        limits(riddle(3, 1, 6, 10, 0, 0, 1, 0, 6, 11, 0, 0, 1, 1), 6);
        limits(riddle(3, 1, 6, 10, 0, 0, 0, 0, 6, 10, 0, 0, 1, 0, 2, 11, 12, 0, 0, 1), 2);
    }

    private static void noAnswerToCount() {
        RiddleMill mill = impossible();
        for (int limit : new int[] {0, 1, 2, GREATEST}) {
            Check.equal("count(" + limit + ")", mill.count(limit), 0);
        }
    }

    private static void countedTwiceAlike() {
        RiddleMill mill = riddle(3, 2, 0, 10, 20, 0, 0, NONE);
        Check.equal("a low limit", mill.count(1), 1);
        Check.equal("a high one then", mill.count(1000), 48);
        Check.equal("a low one again", mill.count(3), 3);
    }

    private static void sameAndApart() {
        counts("kind 0 of one sort", riddle(3, 1, 0, 10, 11, 0, 0, NONE), 0);
        counts("kind 1 of one sort", riddle(3, 1, 1, 10, 11, 0, 0, NONE), 24);
        counts("kind 0", riddle(3, 2, 0, 10, 20, 0, 0, NONE), 48);
        counts("kind 1", riddle(3, 2, 1, 10, 20, 0, 0, NONE), 96);
        counts("kinds 0 and 1", riddle(3, 2, 0, 10, 20, 0, 0, NONE, 1, 10, 20, 0, 0, NONE), 0);
    }

    private static void leftOfTheSamePlace() {
        counts("kind 2", riddle(3, 2, 2, 10, 20, 0, 0, NONE), 48);
        counts("kind 2 at one place", riddle(3, 2, 0, 10, 20, 0, 0, NONE, 2, 10, 20, 0, 0, NONE), 0);
        counts("kind 2, x at the last place", riddle(3, 2, 6, 10, 0, 0, 2, NONE, 2, 10, 20, 0, 0, NONE), 0);
        counts("kind 2, y at place 0", riddle(3, 2, 6, 20, 0, 0, 0, NONE, 2, 10, 20, 0, 0, NONE), 0);
    }

    private static void differByJustOne() {
        counts("kind 3, by 0", riddle(3, 2, 0, 10, 20, 0, 0, NONE, 3, 10, 20, 0, 0, NONE), 0);
        counts("kind 3, by 2", riddle(3, 1, 6, 10, 0, 0, 0, NONE, 6, 11, 0, 0, 2, NONE, 3, 10, 11, 0, 0, NONE), 0);
        counts("kind 3, below", riddle(3, 1, 6, 10, 0, 0, 0, NONE, 3, 10, 11, 0, 0, NONE), 4);
        counts("kind 3, above", riddle(3, 1, 6, 10, 0, 0, 2, NONE, 3, 10, 11, 0, 0, NONE), 4);
        counts("kind 3, both", riddle(3, 1, 6, 10, 0, 0, 1, NONE, 3, 10, 11, 0, 0, NONE), 8);
        counts("kind 3, no wrap-around",
            riddle(3, 1, 6, 10, 0, 0, 2, NONE, 6, 11, 0, 0, 0, NONE, 3, 10, 11, 0, 0, NONE), 0);
    }

    private static void differByJustD() {
        counts("kind 4, d 1", riddle(5, 1, 4, 10, 11, 0, 1, NONE), 8 * 6 * 4);
        counts("kind 4, d 2", riddle(5, 1, 4, 10, 11, 0, 2, NONE), 6 * 6 * 4);
        counts("kind 4, d 3", riddle(5, 1, 4, 10, 11, 0, 3, NONE), 4 * 6 * 4);
        counts("kind 4, d 4", riddle(5, 1, 4, 10, 11, 0, 4, NONE), 2 * 6 * 4);
    }

    private static void betweenTwo() {
        counts("kind 5", riddle(3, 3, 5, 10, 20, 30, 0, NONE), 16 * 4);
        counts("kind 5, upwards", riddle(3, 3, 5, 10, 20, 30, 0, NONE, 2, 20, 30, 0, 0, NONE), 8 * 4);
        counts("kind 5, downwards", riddle(3, 3, 5, 10, 20, 30, 0, NONE, 2, 30, 20, 0, 0, NONE), 8 * 4);
        counts("kind 5, both at one place", riddle(3, 3, 5, 10, 20, 30, 0, NONE, 0, 20, 30, 0, 0, NONE), 0);
        counts("kind 5, x where y is", riddle(3, 3, 5, 10, 20, 30, 0, NONE, 0, 10, 20, 0, 0, NONE), 0);
        counts("kind 5, x where z is", riddle(3, 3, 5, 10, 20, 30, 0, NONE, 0, 10, 30, 0, 0, NONE), 0);
    }

    private static void firstAndLastPlace() {
        counts("kind 6, the first", riddle(5, 1, 6, 14, 0, 0, 0, NONE), 24 * 4);
        counts("kind 6, the last", riddle(5, 1, 6, 14, 0, 0, 4, NONE), 24 * 4);
    }

    private static void orWithBoth() {
        counts("kind 7, one or both", riddle(3, 3, 7, 10, 20, 30, 0, NONE), 216 * 5 / 9 * 4);
        counts("kind 7, both", riddle(3, 3, 7, 10, 20, 30, 0, NONE, 0, 20, 30, 0, 0, NONE), 24 * 4);
        counts("kind 8, one", riddle(3, 3, 8, 10, 20, 30, 0, NONE), 216 * 4 / 9 * 4);
        counts("kind 8, both", riddle(3, 3, 8, 10, 20, 30, 0, NONE, 0, 20, 30, 0, 0, NONE), 0);
    }

    private static void underItself() {
        counts("kind 9, its own sort", riddle(3, 1, 9, 10, 11, 0, 1, NONE), 24);
        counts("kind 9, the other way", riddle(3, 1, 9, 11, 10, 0, 1, NONE), 0);
        counts("kind 9, one place", riddle(3, 2, 0, 10, 20, 0, 0, NONE, 9, 10, 20, 0, 1, NONE), 0);
        counts("kind 9, one place, the other way", riddle(3, 2, 0, 10, 20, 0, 0, NONE, 9, 20, 10, 0, 2, NONE), 0);
        counts("kind 9, the first of its sort", riddle(3, 2, 0, 10, 20, 0, 0, NONE, 9, 10, 11, 0, 2, NONE), 48);
        counts("kind 9, the last of its sort", riddle(3, 2, 0, 10, 22, 0, 0, NONE, 9, 10, 11, 0, 2, NONE), 0);
    }

    private static void liars() {
        RiddleMill never = riddle(3, 3, 8, 10, 20, 30, 0, 0, 0, 20, 30, 0, 0, NONE);
        counts("a word that is never so", never, 72 * 2);
        Check.equal("he lies", never.answer(0), 0);
        RiddleMill always = riddle(3, 1, 9, 10, 11, 0, 1, 1);
        counts("a word that is always so", always, 12);
        Check.equal("he tells the truth", always.answer(1), 1);
        counts("one word, two speakers", riddle(3, 1, 6, 10, 0, 0, 0, 0, 6, 10, 0, 0, 0, 1), 12 / 2);
        counts("a word and its contrary", riddle(3, 1, 2, 10, 11, 0, 0, 0, 2, 11, 10, 0, 0, 0), 0);
    }

    private static void noAnswerToTell() {
        RiddleMill mill = impossible();
        for (int x : new int[] {0, 1, 10, 11, 12}) {
            Check.equal("answer(" + x + ")", mill.answer(x), NONE);
        }
    }

    private static void noSuchThing() {
        for (int size : new int[] {31, 32, 33, 41, 42, 43, 51, 52}) {
            int n = size / 10;
            int k = size % 10;
            RiddleMill mill = new RiddleMill(n, k);
            for (int x = 0; x < n; x++) {
                mill.clue(6, 10 + x, 0, 0, x, NONE);
                mill.clue(1, 10 + x, 10 + (x + 1) % n, 0, 0, x % 2);
            }
            Check.equal("answer(10)", mill.answer(10), 0);
            for (int x : new int[] {LEAST, -10, -1, 2, 3, 9, 10 + n, 19, 10 * k + n, 10 * k + 10, 40, 74, 100,
                GREATEST}) {
                Check.equal("answer(" + x + ") of " + size, mill.answer(x), NONE);
            }
        }
    }

    private static void notAlike() {
        RiddleMill mill = riddle(3, 1, 6, 10, 0, 0, 1, NONE, 6, 11, 0, 0, 0, 0);
        Check.equal("a thing at two places", mill.answer(11), NONE);
        Check.equal("another thing at two places", mill.answer(12), NONE);
        Check.equal("a speaker who may be both", mill.answer(0), NONE);
        Check.equal("a speaker without a word", mill.answer(1), NONE);
        Check.equal("but a thing at one", mill.answer(10), 1);
        Check.equal("without clues", riddle(3, 1).answer(10), NONE);
        Check.equal("without clues, a speaker", riddle(3, 1).answer(0), NONE);
    }

    private static void alikeAtTheFirstAndLastPlace() {
        RiddleMill mill = riddle(5, 2, 6, 13, 0, 0, 0, NONE, 6, 20, 0, 0, 4, NONE);
        Check.equal("place 0", mill.answer(13), 0);
        Check.equal("place 4", mill.answer(20), 4);
        Check.equal("all others", mill.answer(24), NONE);
    }

    private static void alikeThoughSpeakersDiffer() {
        RiddleMill mill = riddle(3, 1, 6, 10, 0, 0, 2, NONE, 6, 11, 0, 0, 0, NONE);
        Check.equal("four answers", mill.count(100), 4);
        Check.equal("answer(12)", mill.answer(12), 1);
        Check.equal("answer(0)", mill.answer(0), NONE);
    }

    private static void speakersAlike() {
        RiddleMill mill = riddle(3, 1, 0, 10, 11, 0, 0, 0, 1, 10, 11, 0, 0, 1);
        Check.equal("a liar", mill.answer(0), 0);
        Check.equal("one who tells the truth", mill.answer(1), 1);
        Check.equal("a thing of which nothing is known", mill.answer(10), NONE);
    }

    private static void noSuchClueToNeed() {
        RiddleMill mill = riddle(3, 1, 6, 10, 0, 0, 1, NONE, 2, 11, 12, 0, 0, 0);
        String before = State.of(mill);
        for (int k : new int[] {LEAST, -1, 2, 3, 29, 30, GREATEST}) {
            Check.fails("needed(" + k + ")", IndexOutOfBoundsException.class, () -> mill.needed(k) ? 1 : 0);
        }
        Check.equal("all", State.of(mill), before);
    }

    private static void noClueToNeed() {
        Check.fails("needed(0)", IndexOutOfBoundsException.class, () -> riddle(3, 1).needed(0) ? 1 : 0);
    }

    private static void firstAndLastNeeded() {
        RiddleMill mill = riddle(3, 1, 6, 10, 0, 0, 0, NONE, 1, 10, 11, 0, 0, NONE, 6, 11, 0, 0, 1, NONE);
        String before = State.of(mill);
        Check.isTrue("the first", mill.needed(0));
        Check.isFalse("the middle one", mill.needed(1));
        Check.isTrue("the last", mill.needed(2));
        Check.equal("all", State.of(mill), before);
    }

    private static void theOnlyClueNeeded() {
        Check.isTrue("the only one", riddle(3, 1, 6, 10, 0, 0, 0, NONE).needed(0));
        Check.isTrue("the only one, which never holds", riddle(3, 1, 0, 10, 11, 0, 0, NONE).needed(0));
    }

    private static void neededThoughAnswersDifferWithIt() {
        RiddleMill mill = riddle(3, 1, 1, 10, 11, 0, 0, NONE, 6, 10, 0, 0, 0, NONE);
        Check.isTrue("answers differ with it and without it", mill.needed(0));
        Check.isTrue("the other one", mill.needed(1));
    }

    private static void noAnswerWithoutIt() {
        RiddleMill mill = riddle(3, 1, 0, 10, 11, 0, 0, NONE, 6, 10, 0, 0, 0, NONE);
        Check.isFalse("no answer without it", mill.needed(1));
        Check.isTrue("answers that differ without it", mill.needed(0));
    }

    private static void oneAnswerWithoutIt() {
        RiddleMill mill = riddle(3, 1, 6, 10, 0, 0, 0, NONE, 6, 11, 0, 0, 1, NONE, 6, 12, 0, 0, 2, NONE);
        for (int k = 0; k < 3; k++) {
            Check.isFalse("needed(" + k + ")", mill.needed(k));
        }
    }

    private static void speakersAloneDifferWithoutIt() {
        RiddleMill mill = riddle(3, 1, 6, 10, 0, 0, 0, NONE, 6, 11, 0, 0, 1, NONE, 6, 11, 0, 0, 1, 0);
        Check.equal("two answers with it", mill.count(10), 2);
        Check.isFalse("four without it", mill.needed(2));
    }

    private static void aLiarsClueNeeded() {
        RiddleMill mill = riddle(3, 1, 6, 10, 0, 0, 0, NONE, 0, 11, 12, 0, 0, 0, 2, 11, 12, 0, 0, 0);
        Check.equal("one placing", mill.answer(12), 1);
        Check.isTrue("the word that shows the liar", mill.needed(1));
        Check.isTrue("the other word of the liar", mill.needed(2));
    }

    private static void thirtyCluesCounted() {
        RiddleMill mill = Thirty.riddle();
        Check.equal("clues", mill.about(2), 30);
        Check.equal("count(0)", mill.count(0), 0);
        Check.equal("count(1)", mill.count(1), 1);
        Check.equal("count(2)", mill.count(2), 1);
        mill.drop(29);
        Check.equal("count(2) without the last", mill.count(3), 2);
    }

    private static void thirtyCluesAnswered() {
        RiddleMill mill = Thirty.riddle();
        for (int i = 0; i < 5; i++) {
            Check.equal("answer(" + (10 + i) + ")", mill.answer(10 + i), i);
            Check.equal("answer(" + (20 + i) + ")", mill.answer(20 + i), i);
        }
        Check.equal("answer(0)", mill.answer(0), 1);
        Check.equal("answer(1)", mill.answer(1), 1);
    }

    private static void thirtyCluesNeeded() {
        RiddleMill mill = Thirty.riddle();
        Check.isTrue("the first", mill.needed(0));
        for (int k = 1; k < 29; k++) {
            Check.isFalse("needed(" + k + ")", mill.needed(k));
        }
        Check.isTrue("the last", mill.needed(29));
        Check.fails("needed(30)", IndexOutOfBoundsException.class, () -> mill.needed(30) ? 1 : 0);
    }

    public static void main(String[] args) {
        Check.test("5: limit below 0", EdgesOfAnswersTest::limitBelowZero);
        Check.test("5: limit 0", EdgesOfAnswersTest::limitZero);
        Check.test("5: just the number, one more, no clues", EdgesOfAnswersTest::limitJustTheNumberWithoutClues);
        Check.test("5: just the number, one more, clues", EdgesOfAnswersTest::limitJustTheNumberWithClues);
        Check.test("5: just the number, one more, speakers", EdgesOfAnswersTest::limitJustTheNumberWithSpeakers);
        Check.test("5: no answer", EdgesOfAnswersTest::noAnswerToCount);
        Check.test("5: 30 clues", EdgesOfAnswersTest::thirtyCluesCounted);
        Check.test("5: again", EdgesOfAnswersTest::countedTwiceAlike);
        Check.test("CLUES: kinds 0, 1", EdgesOfAnswersTest::sameAndApart);
        Check.test("CLUES: kind 2", EdgesOfAnswersTest::leftOfTheSamePlace);
        Check.test("CLUES: kind 3", EdgesOfAnswersTest::differByJustOne);
        Check.test("CLUES: kind 4", EdgesOfAnswersTest::differByJustD);
        Check.test("CLUES: kind 5", EdgesOfAnswersTest::betweenTwo);
        Check.test("CLUES: kind 6", EdgesOfAnswersTest::firstAndLastPlace);
        Check.test("CLUES: kinds 7, 8", EdgesOfAnswersTest::orWithBoth);
        Check.test("CLUES: kind 9", EdgesOfAnswersTest::underItself);
        Check.test("CLUES: speakers", EdgesOfAnswersTest::liars);
        Check.test("6: no answer", EdgesOfAnswersTest::noAnswerToTell);
        Check.test("6: no such thing", EdgesOfAnswersTest::noSuchThing);
        Check.test("6: not alike", EdgesOfAnswersTest::notAlike);
        Check.test("6: the first and the last place", EdgesOfAnswersTest::alikeAtTheFirstAndLastPlace);
        Check.test("6: speakers differ", EdgesOfAnswersTest::alikeThoughSpeakersDiffer);
        Check.test("6: speakers alike", EdgesOfAnswersTest::speakersAlike);
        Check.test("6: 30 clues", EdgesOfAnswersTest::thirtyCluesAnswered);
        Check.test("7: none such", EdgesOfAnswersTest::noSuchClueToNeed);
        Check.test("7: none at all", EdgesOfAnswersTest::noClueToNeed);
        Check.test("7: the first and the last", EdgesOfAnswersTest::firstAndLastNeeded);
        Check.test("7: 30 clues", EdgesOfAnswersTest::thirtyCluesNeeded);
        Check.test("7: the only one", EdgesOfAnswersTest::theOnlyClueNeeded);
        Check.test("7: answers differ with it, too", EdgesOfAnswersTest::neededThoughAnswersDifferWithIt);
        Check.test("7: no answer without it", EdgesOfAnswersTest::noAnswerWithoutIt);
        Check.test("7: one answer without it", EdgesOfAnswersTest::oneAnswerWithoutIt);
        Check.test("7: speakers alone differ without it", EdgesOfAnswersTest::speakersAloneDifferWithoutIt);
        Check.test("7: a liar's clue", EdgesOfAnswersTest::aLiarsClueNeeded);
        Check.done();
    }
}
