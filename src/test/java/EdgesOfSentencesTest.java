/** The edges that promises 13 to 18, and the term SENTENCES, name, a test for each. */
public final class EdgesOfSentencesTest {
    private static final Class<IllegalArgumentException> WRONG = IllegalArgumentException.class;
    private static final Class<IllegalStateException> STATE = IllegalStateException.class;
    private static final int NONE = RiddleMill.NONE;
    private static final int LEAST = Integer.MIN_VALUE;
    private static final int GREATEST = Integer.MAX_VALUE;
    private static final int NOT_AS_TOLD = -2;
    private static final int[] SIZES = {31, 32, 33, 41, 42, 43, 51, 52};

    private static final String[] WORDS = {"is", "not", "left", "next", "of", "to", "from", "between", "and", "at",
        "or", "either", "under", "in", "says"};

    /** A sentence of each kind, for the names of named(). */
    private static final String[] SENTENCES = {"ann is tea", "ann is not tea", "ann is left of tea",
        "ann is next to tea", "ann is 1 from tea", "ann is between bob and tea", "ann is at 2", "ann is tea or milk",
        "ann is either tea or milk", "ann is under bob in 2"};
    private static final String[] CLUES = {"(0 10 20 0 0 -1)", "(1 10 20 0 0 -1)", "(2 10 20 0 0 -1)",
        "(3 10 20 0 0 -1)", "(4 10 20 0 1 -1)", "(5 10 11 20 0 -1)", "(6 10 0 0 2 -1)", "(7 10 20 21 0 -1)",
        "(8 10 20 21 0 -1)", "(9 10 11 0 2 -1)"};

    private static RiddleMill named() {
        RiddleMill mill = new RiddleMill(3, 2);
        String[] names = {"ann", "bob", "cid", "tea", "milk", "water"};
        for (int i = 0; i < 6; i++) {
            Check.isTrue("name " + names[i], mill.name(10 * (i / 3 + 1) + i % 3, Words.pack(names[i])));
        }
        return mill;
    }

    /** A mill of one clue, that thing 10 is at 0; so the name of 10 can be seen. */
    private static RiddleMill oneClue() {
        RiddleMill mill = new RiddleMill(3, 2);
        mill.clue(6, 10, 0, 0, 0, NONE);
        return mill;
    }

    private static void bears(RiddleMill mill, String name) {
        String due = name + " is at 0";
        Check.equal("print(0)", mill.print(0), due.length());
        Check.equal("what is shown", Words.shown(mill), due);
    }

    private static void noName(long w) {
        RiddleMill mill = oneClue();
        Check.isFalse("name(10, " + w + ")", mill.name(10, w));
        Check.equal("still none", mill.print(0), 0);
        Check.isTrue("a name", mill.name(10, Words.pack("old")));
        Check.isFalse("name(10, " + w + ") in place of another one", mill.name(10, w));
        bears(mill, "old");
    }

    private static void aName(long w, String name) {
        RiddleMill mill = oneClue();
        Check.isTrue("name(10, " + w + ")", mill.name(10, w));
        bears(mill, name);
    }

    private static void noLetter() {
        noName(0);
    }

    private static void oneLetter() {
        for (int shift = 0; shift < 64; shift += 8) {
            aName((long) 'a' << shift, "a");
            aName((long) 'z' << shift, "z");
        }
    }

    private static void sixLetters() {
        aName(Words.pack("abcxyz"), "abcxyz");
        aName(Words.pack("zzzzzz"), "zzzzzz");
        aName(Words.pack("abcxyz") << 16, "abcxyz");
        aName(0x6162006300646566L, "abcdef");
    }

    private static void sevenLetters() {
        noName(Words.pack("abcdefg"));
        noName(Words.pack("aaaaaaa") << 8);
        noName(0x6162636400656667L);
    }

    private static void eightLetters() {
        noName(Words.pack("abcdefgh"));
        noName(Words.pack("zzzzzzzz"));
    }

    private static void bytesThatAreNoLetters() {
        int[] bytes = {1, 31, 32, '-', '0', '9', '@', 'A', 'Z', '[', 96, 123, 126, 127, 128, 0xe1, 255};
        for (int letter : bytes) {
            for (int shift = 0; shift < 64; shift += 8) {
                noName((long) letter << shift);
            }
            noName(letter);
            noName((long) letter << 16 | 'a' << 8 | 'b');
            noName('a' << 16 | (long) letter << 8 | 'b');
            noName('a' << 16 | 'b' << 8 | (long) letter);
        }
        noName(-1L);
        noName(Long.MIN_VALUE);
        noName(Long.MAX_VALUE);
    }

    private static void bytesThatAreZero() {
        aName(0x6100000000000062L, "ab");
        aName(0x0061006200630000L, "abc");
    }

    private static void eachOfTheWords() {
        for (String word : WORDS) {
            noName(Words.pack(word));
        }
        noName(0x6900000000000073L);
        noName(Words.pack("says") << 32);
    }

    private static void almostWords() {
        String[] names = {"i", "s", "si", "iss", "no", "nott", "lef", "lefts", "betwee", "etween", "an", "ands", "a",
            "t", "o", "eithe", "ither", "unde", "n", "say", "sayss"};
        for (String name : names) {
            aName(Words.pack(name), name);
        }
    }

    private static void aNameThatAnotherThingHas() {
        RiddleMill mill = oneClue();
        Check.isTrue("thing 22 gets it", mill.name(22, Words.pack("ann")));
        Check.isFalse("thing 10 does not", mill.name(10, Words.pack("ann")));
        Check.equal("it has none", mill.print(0), 0);
        Check.isTrue("thing 10 gets another one", mill.name(10, Words.pack("bob")));
        Check.isFalse("thing 10 does not", mill.name(10, Words.pack("ann")));
        bears(mill, "bob");
        Check.isFalse("nor does 22", mill.name(22, Words.pack("bob")));
    }

    private static void aNameOfItsOwn() {
        RiddleMill mill = oneClue();
        mill.name(10, Words.pack("ann"));
        Check.isTrue("again", mill.name(10, Words.pack("ann")));
        bears(mill, "ann");
    }

    private static void aNameThatIsFreeAgain() {
        RiddleMill mill = oneClue();
        mill.name(22, Words.pack("ann"));
        Check.isTrue("thing 22 gets another one", mill.name(22, Words.pack("bob")));
        Check.isTrue("thing 10 gets its old one", mill.name(10, Words.pack("ann")));
        bears(mill, "ann");
    }

    private static void namesThatBeginAlike() {
        RiddleMill mill = oneClue();
        Check.isTrue("a", mill.name(10, Words.pack("a")));
        Check.isTrue("aa", mill.name(11, Words.pack("aa")));
        Check.isTrue("aab", mill.name(12, Words.pack("aab")));
        bears(mill, "a");
    }

    private static void noSuchThingToName() {
        for (int size : SIZES) {
            int n = size / 10;
            int k = size % 10;
            RiddleMill mill = new RiddleMill(n, k);
            for (int x : new int[] {LEAST, -10, -1, 0, 1, 9, 10 + n, 19, 10 * k + n, 10 * k + 9, 10 * k + 10, 39, 40,
                74, 266, GREATEST}) {
                Check.isFalse("name of thing " + x + " of " + size, mill.name(x, Words.pack("ann")));
            }
            Check.isTrue("the last thing", mill.name(10 * k + n - 1, Words.pack("ann")));
        }
    }

    private static void noSuchClueToPrint() {
        RiddleMill mill = oneClue();
        mill.name(10, Words.pack("ann"));
        for (int k : new int[] {LEAST, -1, 1, 2, 29, 30, GREATEST}) {
            Check.equal("print(" + k + ")", mill.print(k), 0);
        }
        Check.equal("print(0)", mill.print(0), 11);
        mill.drop(0);
        Check.equal("print(0) of a clue that went", mill.print(0), 0);
    }

    private static void lacks(int lacking, int due, int... c) {
        RiddleMill mill = new RiddleMill(3, 2);
        mill.clue(c[0], c[1], c[2], c[3], c[4], c[5]);
        for (int x : new int[] {10, 11, 12}) {
            if (x != lacking) {
                mill.name(x, Words.pack("abc".substring(x - 10, x - 9)));
            }
        }
        Check.equal("print of kind " + c[0] + " without a name of " + lacking, mill.print(0), due);
        Check.equal("what is shown of kind " + c[0], mill.shown(0), due == 0 ? NONE : 'a');
    }

    private static void aNameIsLacking() {
        for (int kind : new int[] {0, 1, 2, 3, 4, 9}) {
            lacks(10, 0, kind, 10, 11, 0, kind == 4 || kind == 9 ? 1 : 0, NONE);
            lacks(11, 0, kind, 10, 11, 0, kind == 4 || kind == 9 ? 1 : 0, NONE);
        }
        for (int kind : new int[] {5, 7, 8}) {
            lacks(10, 0, kind, 10, 11, 12, 0, NONE);
            lacks(11, 0, kind, 10, 11, 12, 0, NONE);
            lacks(12, 0, kind, 10, 11, 12, 0, NONE);
        }
        lacks(10, 0, 6, 10, 0, 0, 0, NONE);
    }

    private static void aNameThatIsNotInTheClue() {
        lacks(12, 6, 0, 10, 11, 0, 0, NONE);
        lacks(12, 13, 4, 10, 11, 0, 1, NONE);
        lacks(12, 17, 9, 10, 11, 0, 1, NONE);
        lacks(11, 9, 6, 10, 0, 0, 0, NONE);
    }

    private static void theLongestSentence() {
        RiddleMill mill = new RiddleMill(4, 3);
        mill.name(10, Words.pack("abcdef"));
        mill.name(23, Words.pack("ghijkl"));
        mill.name(33, Words.pack("mnopqr"));
        mill.clue(5, 10, 23, 33, 0, 1);
        String due = "1 says abcdef is between ghijkl and mnopqr";
        Check.equal("print(0)", mill.print(0), 42);
        Check.equal("what is shown", Words.shown(mill), due);
        mill.drop(0);
        Words.type(mill, due);
        Check.equal("read()", mill.read(), 0);
        Check.equal("the clue", State.clue(mill, 0), "(5 10 23 33 0 1)");
    }

    private static void eachKindPrinted() {
        RiddleMill mill = named();
        for (int kind = 0; kind < 10; kind++) {
            Words.type(mill, SENTENCES[kind]);
            Check.equal("read()", mill.read(), kind);
            Check.equal("the clue of '" + SENTENCES[kind] + "'", State.clue(mill, kind), CLUES[kind]);
            Check.equal("print(" + kind + ")", mill.print(kind), SENTENCES[kind].length());
            Check.equal("what is shown", Words.shown(mill), SENTENCES[kind]);
        }
    }

    private static void eachSpeakerPrinted() {
        for (int speaker = 0; speaker < 2; speaker++) {
            for (int kind = 0; kind < 10; kind++) {
                RiddleMill mill = named();
                String text = speaker + " says " + SENTENCES[kind];
                Words.type(mill, text);
                Check.equal("read()", mill.read(), 0);
                Check.equal("the clue of '" + text + "'", State.clue(mill, 0),
                    CLUES[kind].replace("-1)", speaker + ")"));
                Check.equal("print(0)", mill.print(0), text.length());
                Check.equal("what is shown", Words.shown(mill), text);
            }
        }
    }

    private static void eachNumberPrinted() {
        RiddleMill mill = new RiddleMill(5, 2);
        mill.name(10, Words.pack("ann"));
        mill.name(11, Words.pack("bob"));
        for (int d = 0; d < 5; d++) {
            mill.print(mill.clue(6, 10, 0, 0, d, NONE));
            Check.equal("what is shown", Words.shown(mill), "ann is at " + d);
        }
        for (int d = 1; d < 5; d++) {
            mill.print(mill.clue(4, 10, 11, 0, d, NONE));
            Check.equal("what is shown", Words.shown(mill), "ann is " + d + " from bob");
        }
        for (int d = 1; d < 3; d++) {
            mill.print(mill.clue(9, 10, 11, 0, d, NONE));
            Check.equal("what is shown", Words.shown(mill), "ann is under bob in " + d);
        }
    }

    private static void thirtyCluesPrinted() {
        RiddleMill mill = full();
        Check.equal("print(0)", mill.print(0), 10);
        Check.equal("what is shown", Words.shown(mill), "ann is tea");
        Check.equal("print(29)", mill.print(29), 22);
        Check.equal("what is shown", Words.shown(mill), "0 says cid is not milk");
        Check.equal("print(30)", mill.print(30), 0);
    }

    private static void nothingShownYet() {
        RiddleMill mill = oneClue();
        for (int k : new int[] {LEAST, -1, 0, 1, GREATEST}) {
            Check.equal("shown(" + k + ")", mill.shown(k), NONE);
        }
    }

    private static void noSuchCharacter() {
        RiddleMill mill = oneClue();
        mill.name(10, Words.pack("ann"));
        mill.print(0);
        Check.equal("the first", mill.shown(0), 'a');
        Check.equal("the last", mill.shown(10), '0');
        for (int k : new int[] {LEAST, -1, 11, 12, 59, 60, 61, GREATEST}) {
            Check.equal("shown(" + k + ")", mill.shown(k), NONE);
        }
    }

    private static void aShorterSentenceLater() {
        RiddleMill mill = named();
        mill.clue(5, 10, 11, 12, 0, 0);
        mill.clue(6, 10, 0, 0, 0, NONE);
        Check.equal("the longer one", mill.print(0), 33);
        Check.equal("the shorter one", mill.print(1), 11);
        Check.equal("what is shown", Words.shown(mill), "ann is at 0");
        Check.equal("behind its end", mill.shown(11), NONE);
    }

    private static void whatWasShownLatestStays() {
        RiddleMill mill = named();
        mill.clue(6, 10, 0, 0, 0, NONE);
        mill.print(0);
        mill.name(10, Words.pack("dan"));
        Check.equal("behind name()", Words.shown(mill), "ann is at 0");
        mill.print(1);
        Check.equal("behind a print() of none such", Words.shown(mill), "ann is at 0");
        mill.drop(0);
        Check.equal("behind drop()", Words.shown(mill), "ann is at 0");
        Words.type(mill, "dan is at 1");
        mill.read();
        Check.equal("behind read()", Words.shown(mill), "ann is at 0");
        mill.print(0);
        Check.equal("behind print()", Words.shown(mill), "dan is at 1");
    }

    private static void noBytes() {
        RiddleMill mill = new RiddleMill(3, 1);
        Check.equal("type(0) of an empty line", mill.type(0), 0);
        mill.type('a');
        Check.equal("type(0)", mill.type(0), 1);
    }

    private static void bytesOfALine() {
        for (int shift = 0; shift < 64; shift += 8) {
            RiddleMill mill = new RiddleMill(3, 1);
            for (int letter : new int[] {1, 9, 10, 31, 127, 128, 129, 200, 254, 255}) {
                Check.equal("byte " + letter, mill.type((long) letter << shift), NONE);
            }
            Check.equal("none came", mill.type(0), 0);
            Check.equal("byte 32", mill.type(32L << shift), 1);
            Check.equal("byte 33", mill.type(33L << shift), 2);
            Check.equal("byte 125", mill.type(125L << shift), 3);
            Check.equal("byte 126", mill.type(126L << shift), 4);
        }
    }

    private static void oneByteOfEightIsNone() {
        for (int letter : new int[] {31, 127, 128, 255}) {
            for (int shift = 0; shift < 64; shift += 8) {
                RiddleMill mill = named();
                Words.type(mill, "ann is");
                long w = Words.pack(" at 2   ") & ~(255L << shift) | (long) letter << shift;
                Check.equal("type(" + w + ")", mill.type(w), NONE);
                Check.equal("the line stays", Words.type(mill, " at 2"), 11);
                Check.equal("read()", mill.read(), 0);
            }
        }
    }

    private static void bytesHighestFirst() {
        RiddleMill mill = named();
        Check.equal("bytes that are 0 between", mill.type(0x6100006e6e002069L), 5);
        Check.equal("the rest", mill.type(Words.pack("s at 2")), 11);
        Check.equal("read()", mill.read(), 0);
        Check.equal("the clue", State.clue(mill, 0), "(6 10 0 0 2 -1)");
    }

    /** A line of so many characters, all of them a. */
    private static RiddleMill line(int length) {
        RiddleMill mill = new RiddleMill(3, 1);
        for (int k = 1; k <= length; k++) {
            Check.equal("character " + k, mill.type('a'), k);
        }
        return mill;
    }

    private static void sixtyCharacters() {
        Check.equal("one more of 59", line(59).type('a'), 60);
        Check.equal("eight more of 52", line(52).type(Words.pack("abcdefgh")), 60);
        Check.equal("none more of 60", line(60).type(0), 60);
    }

    private static void sixtyOneCharacters() {
        RiddleMill full = line(60);
        Check.equal("one more of 60", full.type('a'), NONE);
        Check.equal("still 60", full.type(0), 60);
        RiddleMill almost = line(59);
        Check.equal("two more of 59", almost.type(Words.pack("ab")), NONE);
        Check.equal("still 59", almost.type(0), 59);
        RiddleMill eight = line(53);
        Check.equal("eight more of 53", eight.type(Words.pack("abcdefgh")), NONE);
        Check.equal("seven more of 53", eight.type(Words.pack("abcdefg")), 60);
    }

    private static void aFullLineRead() {
        RiddleMill mill = line(60);
        Check.fails("read()", WRONG, mill::read);
        Check.equal("fault()", mill.fault(), 0);
        Check.equal("the line is empty", mill.type('a'), 1);
        RiddleMill words = named();
        Words.type(words, "ann is either tea or milk or milk or milk or milk or milk or");
        Check.equal("60", words.type(0), 60);
        Check.fails("read()", WRONG, words::read);
        Check.equal("fault()", words.fault(), 26);
    }

    /** The line is no sentence, or its clue is not as told; it is empty then, and no clue came. */
    private static void fault(RiddleMill mill, String text, int place) {
        int clues = mill.about(2);
        Check.equal("type '" + text + "'", Words.type(mill, text), text.length());
        Check.fails("read '" + text + "'", WRONG, mill::read);
        Check.equal("fault of '" + text + "'", mill.fault(), place);
        Check.equal("the line behind '" + text + "'", mill.type(0), 0);
        Check.equal("clues behind '" + text + "'", mill.about(2), clues);
    }

    private static void anEmptyLine() {
        fault(named(), "", 0);
        fault(new RiddleMill(3, 1), "", 0);
        RiddleMill mill = named();
        Words.type(mill, "ann is at 2");
        mill.read();
        fault(mill, "", 0);
    }

    /** The first words of a text, as many as told. */
    private static String firstWords(String text, int words) {
        String[] all = text.split(" ");
        return String.join(" ", java.util.Arrays.copyOf(all, words));
    }

    private static void aLineThatEndsTooEarly() {
        for (String sentence : SENTENCES) {
            for (String speaker : new String[] {"", "0 says ", "1 says "}) {
                String text = speaker + sentence;
                for (int words = 1; words < text.split(" ").length; words++) {
                    String beginning = firstWords(text, words);
                    if (!beginning.endsWith("ann is tea")) {
                        fault(named(), beginning, beginning.length());
                    }
                }
            }
        }
    }

    private static void aWordTooMany() {
        for (String sentence : SENTENCES) {
            for (String speaker : new String[] {"", "0 says "}) {
                for (String word : new String[] {"is", "tea", "and", "1", "zzz", "."}) {
                    String text = speaker + sentence;
                    fault(named(), text + " " + word, text.length() + 1);
                }
            }
        }
        fault(named(), "ann is at 2 or tea", 12);
        fault(named(), "ann is not tea or milk", 15);
    }

    private static void aWordThatDoesNotGoOn() {
        for (String sentence : SENTENCES) {
            for (String speaker : new String[] {"", "1 says "}) {
                String[] words = (speaker + sentence).split(" ");
                for (int k = 0; k < words.length; k++) {
                    String ahead = k == 0 ? "" : firstWords(speaker + sentence, k) + " ";
                    for (String wrong : new String[] {"zzz", "Is", "says", "isis", "-"}) {
                        String[] spoilt = words.clone();
                        spoilt[k] = wrong;
                        if (!(wrong.equals("says") && words[k].equals("says"))) {
                            fault(named(), String.join(" ", spoilt), ahead.length());
                        }
                    }
                }
            }
        }
    }

    private static void wordsOfAnotherKind() {
        fault(named(), "ann is tea and milk", 11);
        fault(named(), "ann is between tea or milk", 19);
        fault(named(), "ann is either tea and milk", 18);
        fault(named(), "ann is left to tea", 12);
        fault(named(), "ann is next of tea", 12);
        fault(named(), "ann is 1 of tea", 9);
        fault(named(), "ann is under bob at 2", 17);
        fault(named(), "ann is at tea", 10);
        fault(named(), "ann is in 2", 7);
        fault(named(), "ann is not at 2", 11);
        fault(named(), "ann is under bob in tea", 20);
        fault(named(), "tea from ann", 4);
    }

    private static void twoBlanks() {
        for (String sentence : SENTENCES) {
            for (String speaker : new String[] {"", "0 says "}) {
                String text = speaker + sentence;
                for (int words = 1; words < text.split(" ").length; words++) {
                    String beginning = firstWords(text, words);
                    fault(named(), beginning + " " + text.substring(beginning.length()), beginning.length() + 1);
                }
            }
        }
    }

    private static void blanksAtTheEnds() {
        for (String sentence : SENTENCES) {
            fault(named(), " " + sentence, 0);
            fault(named(), sentence + " ", sentence.length() + 1);
        }
        fault(named(), " ", 0);
        fault(named(), "  ", 0);
        fault(named(), "ann ", 4);
        fault(named(), "ann is ", 7);
        fault(named(), "0 ", 2);
        fault(named(), "0 says ", 7);
    }

    private static void speakersInALine() {
        fault(named(), "0", 1);
        fault(named(), "1", 1);
        fault(named(), "0 ann is tea", 2);
        fault(named(), "0 is tea", 2);
        fault(named(), "0 says", 6);
        fault(named(), "0 says 1 says ann is tea", 7);
        fault(named(), "says ann is tea", 0);
        fault(named(), "ann says ann is tea", 4);
        fault(named(), "01 says ann is tea", 0);
    }

    private static void namesInALine() {
        RiddleMill mill = named();
        mill.name(10, Words.pack("dan"));
        fault(mill, "ann is tea", 0);
        fault(mill, "tea is ann", 7);
        Words.type(mill, "dan is tea");
        Check.equal("read()", mill.read(), 0);
        fault(new RiddleMill(3, 1), "ann is at 2", 0);
        RiddleMill some = new RiddleMill(3, 2);
        some.name(10, Words.pack("ann"));
        fault(some, "ann is tea", 7);
        fault(some, "an is at 2", 0);
        fault(some, "annn is at 2", 0);
        fault(some, "ANN is at 2", 0);
    }

    private static void theSameThingsInALine() {
        fault(named(), "ann is ann", NOT_AS_TOLD);
        fault(named(), "ann is not ann", NOT_AS_TOLD);
        fault(named(), "ann is left of ann", NOT_AS_TOLD);
        fault(named(), "ann is next to ann", NOT_AS_TOLD);
        fault(named(), "ann is 1 from ann", NOT_AS_TOLD);
        fault(named(), "ann is between ann and bob", NOT_AS_TOLD);
        fault(named(), "ann is between bob and ann", NOT_AS_TOLD);
        fault(named(), "ann is between bob and bob", NOT_AS_TOLD);
        fault(named(), "ann is ann or bob", NOT_AS_TOLD);
        fault(named(), "ann is bob or ann", NOT_AS_TOLD);
        fault(named(), "ann is bob or bob", NOT_AS_TOLD);
        fault(named(), "ann is either ann or bob", NOT_AS_TOLD);
        fault(named(), "ann is either bob or ann", NOT_AS_TOLD);
        fault(named(), "ann is either bob or bob", NOT_AS_TOLD);
        fault(named(), "ann is under ann in 1", NOT_AS_TOLD);
        fault(named(), "0 says ann is ann", NOT_AS_TOLD);
    }

    private static void number(int size, String text, boolean told) {
        RiddleMill mill = new RiddleMill(size / 10, size % 10);
        mill.name(10, Words.pack("ann"));
        mill.name(11, Words.pack("bob"));
        if (told) {
            Words.type(mill, text);
            Check.equal("read '" + text + "' of " + size, mill.read(), 0);
            Check.equal("fault of '" + text + "' of " + size, mill.fault(), NONE);
        } else {
            fault(mill, text, NOT_AS_TOLD);
        }
    }

    private static void numbersInALine() {
        for (int size : SIZES) {
            int n = size / 10;
            int k = size % 10;
            for (int d = 0; d <= 9; d++) {
                number(size, "ann is " + d + " from bob", d >= 1 && d < n);
                number(size, "ann is at " + d, d < n);
                number(size, "ann is under bob in " + d, d >= 1 && d <= k);
            }
        }
    }

    private static void wordsThatAreNoNumbers() {
        fault(named(), "ann is one from bob", 7);
        fault(named(), "ann is at one", 10);
        fault(named(), "ann is at -1", 10);
        fault(named(), "ann is at +1", 10);
        fault(named(), "ann is at 1.", 10);
        fault(named(), "ann is at /", 10);
        fault(named(), "ann is at :", 10);
        fault(named(), "ann is at 01", 10);
        fault(named(), "ann is at 10", 10);
        fault(named(), "ann is under bob in a", 20);
    }

    private static RiddleMill full() {
        RiddleMill mill = named();
        for (int k = 0; k < 30; k++) {
            mill.clue(k % 2, 10 + k / 2 % 3, 20 + k / 6 % 3, 0, 0, k / 18 - 1);
        }
        Check.equal("clues", mill.about(2), 30);
        return mill;
    }

    private static void thirtyCluesAtRead() {
        RiddleMill mill = full();
        fault(mill, "ann is", 6);
        Words.type(mill, "ann is at 2");
        Check.fails("read()", STATE, mill::read);
        Check.equal("fault()", mill.fault(), NONE);
        Check.equal("the line is empty", mill.type(0), 0);
        Check.equal("clues", mill.about(2), 30);
        mill.drop(0);
        Words.type(mill, "ann is at 2");
        Check.equal("read() behind drop()", mill.read(), 29);
    }

    private static void thirtyCluesAndAWrongLine() {
        fault(full(), "ann is at 3", NOT_AS_TOLD);
        fault(full(), "ann is at", 9);
        fault(full(), "", 0);
    }

    private static void oneJustLikeItAtRead() {
        RiddleMill mill = named();
        mill.clue(7, 10, 20, 21, 0, 0);
        fault(mill, "ann is at 3", NOT_AS_TOLD);
        Words.type(mill, "0 says ann is tea or milk");
        Check.fails("read()", STATE, mill::read);
        Check.equal("fault()", mill.fault(), NONE);
        Check.equal("the line is empty", mill.type(0), 0);
        Check.equal("the clues", State.clues(mill), " clues (7 10 20 21 0 0)");
        Words.type(mill, "1 says ann is tea or milk");
        Check.equal("another speaker", mill.read(), 1);
        Words.type(mill, "ann is tea or milk");
        Check.equal("no speaker", mill.read(), 2);
        Words.type(mill, "ann is milk or tea");
        Check.equal("the other way", mill.read(), 3);
    }

    private static void theLineIsEmptyThen() {
        RiddleMill mill = named();
        Words.type(mill, "ann is at 2");
        mill.read();
        Check.equal("the line is empty", mill.type(0), 0);
        Words.type(mill, "bob is at 2");
        Check.equal("the next one", mill.read(), 1);
        Check.equal("the clues", State.clues(mill), " clues (6 10 0 0 2 -1) (6 11 0 0 2 -1)");
    }

    private static void noFaultAtFirst() {
        RiddleMill mill = named();
        Check.equal("without a read()", mill.fault(), NONE);
        mill.type(1);
        Check.fails("clue()", WRONG, () -> mill.clue(0, 10, 10, 0, 0, NONE));
        Check.equal("still none", mill.fault(), NONE);
    }

    private static void faultOfTheLatestRead() {
        RiddleMill mill = named();
        fault(mill, "ann is", 6);
        Words.type(mill, "bob is at 2");
        mill.clue(6, 10, 0, 0, 0, NONE);
        mill.print(0);
        mill.drop(0);
        Check.equal("as long as none is read", mill.fault(), 6);
        mill.read();
        Check.equal("behind a good one", mill.fault(), NONE);
        fault(mill, "ann is ann", NOT_AS_TOLD);
        fault(mill, "zzz", 0);
        Words.type(mill, "bob is at 2");
        Check.fails("one just like it", STATE, mill::read);
        Check.equal("behind one just like it", mill.fault(), NONE);
    }

    private static void aWrongLineChangesNothingElse() {
        RiddleMill mill = named();
        mill.clue(6, 10, 0, 0, 0, NONE);
        mill.prove();
        mill.print(0);
        fault(mill, "", 0);
        String before = State.of(mill);
        fault(mill, "zzz is at 1", 0);
        Check.equal("all", State.of(mill), before);
    }

    private static void namesAndPrints() {
        Check.test("13: no letter", EdgesOfSentencesTest::noLetter);
        Check.test("13: 1 letter", EdgesOfSentencesTest::oneLetter);
        Check.test("13: 6 letters", EdgesOfSentencesTest::sixLetters);
        Check.test("13: 7 letters", EdgesOfSentencesTest::sevenLetters);
        Check.test("13: 8 letters", EdgesOfSentencesTest::eightLetters);
        Check.test("13: a byte that is no letter", EdgesOfSentencesTest::bytesThatAreNoLetters);
        Check.test("13: bytes that are 0", EdgesOfSentencesTest::bytesThatAreZero);
        Check.test("13: one of the WORDS", EdgesOfSentencesTest::eachOfTheWords);
        Check.test("13: almost one of the WORDS", EdgesOfSentencesTest::almostWords);
        Check.test("13: a name that another thing has", EdgesOfSentencesTest::aNameThatAnotherThingHas);
        Check.test("13: a name of its own", EdgesOfSentencesTest::aNameOfItsOwn);
        Check.test("13: a name that is free again", EdgesOfSentencesTest::aNameThatIsFreeAgain);
        Check.test("13: names that begin alike", EdgesOfSentencesTest::namesThatBeginAlike);
        Check.test("13: no such thing", EdgesOfSentencesTest::noSuchThingToName);
        Check.test("14: none such", EdgesOfSentencesTest::noSuchClueToPrint);
        Check.test("14: a name is lacking", EdgesOfSentencesTest::aNameIsLacking);
        Check.test("14: a name that is not in the clue", EdgesOfSentencesTest::aNameThatIsNotInTheClue);
        Check.test("14: the longest sentence", EdgesOfSentencesTest::theLongestSentence);
        Check.test("14: each kind", EdgesOfSentencesTest::eachKindPrinted);
        Check.test("14: each speaker", EdgesOfSentencesTest::eachSpeakerPrinted);
        Check.test("14: each number", EdgesOfSentencesTest::eachNumberPrinted);
        Check.test("14: 30 clues", EdgesOfSentencesTest::thirtyCluesPrinted);
        Check.test("15: nothing shown yet", EdgesOfSentencesTest::nothingShownYet);
        Check.test("15: none such", EdgesOfSentencesTest::noSuchCharacter);
        Check.test("15: a shorter one later", EdgesOfSentencesTest::aShorterSentenceLater);
        Check.test("15: shown latest", EdgesOfSentencesTest::whatWasShownLatestStays);
    }

    private static void lines() {
        Check.test("16: no bytes", EdgesOfSentencesTest::noBytes);
        Check.test("16: bytes 31, 32, 126, 127 and above", EdgesOfSentencesTest::bytesOfALine);
        Check.test("16: one byte of eight", EdgesOfSentencesTest::oneByteOfEightIsNone);
        Check.test("16: the highest first", EdgesOfSentencesTest::bytesHighestFirst);
        Check.test("16: 60 characters", EdgesOfSentencesTest::sixtyCharacters);
        Check.test("16: 61 characters", EdgesOfSentencesTest::sixtyOneCharacters);
        Check.test("17: a full line", EdgesOfSentencesTest::aFullLineRead);
        Check.test("17: an empty line", EdgesOfSentencesTest::anEmptyLine);
        Check.test("17: a line that ends too early", EdgesOfSentencesTest::aLineThatEndsTooEarly);
        Check.test("17: a word too many", EdgesOfSentencesTest::aWordTooMany);
        Check.test("17: a word that does not go on", EdgesOfSentencesTest::aWordThatDoesNotGoOn);
        Check.test("17: a word of another kind", EdgesOfSentencesTest::wordsOfAnotherKind);
        Check.test("17: two blanks", EdgesOfSentencesTest::twoBlanks);
        Check.test("17: blanks at the ends", EdgesOfSentencesTest::blanksAtTheEnds);
        Check.test("17: speakers", EdgesOfSentencesTest::speakersInALine);
        Check.test("17: names", EdgesOfSentencesTest::namesInALine);
        Check.test("17: not as told, the same things", EdgesOfSentencesTest::theSameThingsInALine);
        Check.test("17: not as told, numbers", EdgesOfSentencesTest::numbersInALine);
        Check.test("17: no numbers", EdgesOfSentencesTest::wordsThatAreNoNumbers);
        Check.test("17: 30 clues", EdgesOfSentencesTest::thirtyCluesAtRead);
        Check.test("17: 30 clues and a wrong line", EdgesOfSentencesTest::thirtyCluesAndAWrongLine);
        Check.test("17: one just like it", EdgesOfSentencesTest::oneJustLikeItAtRead);
        Check.test("17: the line is empty then", EdgesOfSentencesTest::theLineIsEmptyThen);
        Check.test("18: none at first", EdgesOfSentencesTest::noFaultAtFirst);
        Check.test("18: of the latest read()", EdgesOfSentencesTest::faultOfTheLatestRead);
        Check.test("18: all else stays", EdgesOfSentencesTest::aWrongLineChangesNothingElse);
    }

    public static void main(String[] args) {
        namesAndPrints();
        lines();
        Check.done();
    }
}
