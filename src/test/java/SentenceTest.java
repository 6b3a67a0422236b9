/** Promises 13 to 18. */
public final class SentenceTest {
    private static final Class<IllegalArgumentException> WRONG = IllegalArgumentException.class;
    private static final Class<IllegalStateException> STATE = IllegalStateException.class;

    private static RiddleMill named() {
        RiddleMill mill = new RiddleMill(3, 2);
        String[] names = {"ann", "bob", "cid", "tea", "milk", "water"};
        for (int i = 0; i < 6; i++) {
            Check.isTrue("name " + names[i], mill.name(10 * (i / 3 + 1) + i % 3, Words.pack(names[i])));
        }
        return mill;
    }

    private static void naming() {
        RiddleMill mill = new RiddleMill(3, 2);
        String[] none = {"", "abcdefg", "abcdefgh", "Ann", "an n", "a1", "{", "`", "is", "not", "left", "next", "of",
            "to", "from", "between", "and", "at", "or", "either", "under", "in", "says"};
        for (String name : none) {
            Check.isFalse("name " + name, mill.name(10, Words.pack(name)));
        }
        Check.isFalse("a byte above 127", mill.name(10, 0xe100000000000000L));
        Check.isFalse("all bytes", mill.name(10, -1L));
        for (int x : new int[] {-1, 0, 1, 9, 13, 30, 110, Integer.MIN_VALUE, Integer.MAX_VALUE}) {
            Check.isFalse("no thing " + x, mill.name(x, Words.pack("ann")));
        }
        mill.clue(6, 10, 0, 0, 2, -1);
        Check.equal("still no name", mill.print(0), 0);
        Check.isTrue("six letters", mill.name(10, Words.pack("azazaz")));
        Check.isTrue("one letter", mill.name(11, Words.pack("z")));
        Check.isTrue("almost a word", mill.name(12, Words.pack("iss")));
        Check.isFalse("another one's", mill.name(20, Words.pack("z")));
        Check.isTrue("its own again", mill.name(11, Words.pack("z")));
        Check.isTrue("a new one", mill.name(11, Words.pack("y")));
        Check.isTrue("the old one is free", mill.name(20, Words.pack("z")));
        Check.isTrue("bytes that are 0 between", mill.name(10, 0x0061006200006300L));
        mill.print(0);
        Check.isTrue("abc is at 2", Words.shown(mill).equals("abc is at 2"));
        Check.isFalse("a refused one leaves the name", mill.name(10, Words.pack("in")));
        mill.print(0);
        Check.isTrue("abc is at 2", Words.shown(mill).equals("abc is at 2"));
    }

    private static void sentence(String text, int... c) {
        RiddleMill mill = named();
        mill.clue(c[0], c[1], c[2], c[3], c[4], c[5]);
        Check.equal("print " + text, mill.print(0), text.length());
        Check.isTrue("shown " + text, Words.shown(mill).equals(text));
        Check.equal("shown behind the end", mill.shown(text.length()), RiddleMill.NONE);
        mill.drop(0);
        Check.equal("type " + text, Words.type(mill, text), text.length());
        Check.equal("read " + text, mill.read(), 0);
        Check.equal("no fault", mill.fault(), RiddleMill.NONE);
        Check.equal("the line is empty", mill.type(0), 0);
        for (int what = 0; what < 6; what++) {
            Check.equal(text + ": clueAt(0, " + what + ")", mill.clueAt(0, what), c[what]);
        }
    }

    private static void sentences() {
        sentence("ann is tea", 0, 10, 20, 0, 0, -1);
        sentence("ann is not tea", 1, 10, 20, 0, 0, -1);
        sentence("water is left of bob", 2, 22, 11, 0, 0, -1);
        sentence("ann is next to cid", 3, 10, 12, 0, 0, -1);
        sentence("ann is 2 from cid", 4, 10, 12, 0, 2, -1);
        sentence("ann is between cid and tea", 5, 10, 12, 20, 0, -1);
        sentence("ann is at 0", 6, 10, 0, 0, 0, -1);
        sentence("ann is tea or milk", 7, 10, 20, 21, 0, -1);
        sentence("ann is either milk or tea", 8, 10, 21, 20, 0, -1);
        sentence("ann is under bob in 2", 9, 10, 11, 0, 2, -1);
        sentence("0 says ann is tea", 0, 10, 20, 0, 0, 0);
        sentence("1 says water is between milk and ann", 5, 22, 21, 10, 0, 1);
    }

    private static void printing() {
        RiddleMill mill = new RiddleMill(3, 2);
        mill.clue(7, 10, 11, 12, 0, 1);
        mill.name(10, Words.pack("a"));
        mill.name(11, Words.pack("b"));
        Check.equal("z lacks a name", mill.print(0), 0);
        mill.name(12, Words.pack("c"));
        Check.equal("all have one", mill.print(0), 18);
        for (int k : new int[] {-1, 1, 30, Integer.MIN_VALUE, Integer.MAX_VALUE}) {
            Check.equal("print(" + k + ")", mill.print(k), 0);
        }
        Check.isTrue("what was shown latest", Words.shown(mill).equals("1 says a is b or c"));
        for (int k : new int[] {-1, 18, 60, Integer.MIN_VALUE, Integer.MAX_VALUE}) {
            Check.equal("shown(" + k + ")", mill.shown(k), RiddleMill.NONE);
        }
        mill.clue(6, 10, 0, 0, 1, -1);
        Check.equal("a shorter one", mill.print(1), 9);
        Check.equal("nothing behind it", mill.shown(9), RiddleMill.NONE);
        mill.name(10, Words.pack("dd"));
        mill.drop(1);
        Check.isTrue("it stays as shown", Words.shown(mill).equals("a is at 1"));
    }

    private static void typing() {
        RiddleMill mill = new RiddleMill(3, 1);
        Check.equal("no bytes", mill.type(0), 0);
        Check.equal("bytes that are 0 between", mill.type(0x2000007e00000041L), 3);
        for (long w : new long[] {31, 127, 128, 255, 10, 0x6161611f61616161L, -1L, Long.MIN_VALUE}) {
            Check.equal("type(" + w + ")", mill.type(w), RiddleMill.NONE);
        }
        Check.equal("none came", mill.type(0), 3);
        for (int k = 1; k <= 7; k++) {
            Check.equal("eight more", mill.type(Words.pack("abcdefgh")), 3 + 8 * k);
        }
        Check.equal("two would be 61", mill.type(Words.pack("ab")), RiddleMill.NONE);
        Check.equal("one is 60", mill.type(Words.pack("a")), 60);
        Check.equal("one would be 61", mill.type(Words.pack("a")), RiddleMill.NONE);
        Check.equal("none is 60", mill.type(0), 60);
        Check.fails("read", WRONG, mill::read);
        Check.equal("the line is empty", mill.type(0), 0);
    }

    private static void fault(RiddleMill mill, String text, int place) {
        int clues = mill.about(2);
        Words.type(mill, text);
        Check.fails("read '" + text + "'", WRONG, mill::read);
        Check.equal("fault of '" + text + "'", mill.fault(), place);
        Check.equal("the line is empty behind '" + text + "'", mill.type(0), 0);
        Check.equal("no clue came of '" + text + "'", mill.about(2), clues);
    }

    private static void faults() {
        RiddleMill mill = named();
        fault(mill, "", 0);
        fault(mill, " ", 0);
        fault(mill, " ann is tea", 0);
        fault(mill, "dan is tea", 0);
        fault(mill, "Ann is tea", 0);
        fault(mill, "annn is tea", 0);
        fault(mill, "an", 0);
        fault(mill, "is", 0);
        fault(mill, "2 says ann is tea", 0);
        fault(mill, "00 says ann is tea", 0);
        fault(mill, "0", 1);
        fault(mill, "0 ", 2);
        fault(mill, "0 ann is tea", 2);
        fault(mill, "0 says", 6);
        fault(mill, "0 says is", 7);
        fault(mill, "0 says 1 says ann is tea", 7);
        fault(mill, "ann", 3);
        fault(mill, "ann says", 4);
        fault(mill, "ann is", 6);
        fault(mill, "ann is ", 7);
        fault(mill, "ann is  tea", 7);
        fault(mill, "ann is tea milk", 11);
        fault(mill, "ann is tea or", 13);
        fault(mill, "ann is tea or milk or", 19);
        fault(mill, "ann is tea.", 7);
        fault(mill, "ann is either tea", 17);
        fault(mill, "ann is either tea and milk", 18);
        fault(mill, "ann is not not tea", 11);
        fault(mill, "ann is 1", 8);
        fault(mill, "ann is 1 from 2", 14);
        fault(mill, "ann is one from bob", 7);
        fault(mill, "ann is at bob", 10);
        fault(mill, "ann is at 10", 10);
        fault(mill, "ann is at 1 ", 12);
        fault(mill, "ann is under bob in tea", 20);
        fault(mill, "ann is between bob and", 22);
        fault(mill, "ann is between bob and cid and", 27);
        fault(mill, "ann is abcdefghijklmnopqrstuvwxyz", 7);
    }

    private static void notAsTold() {
        RiddleMill mill = named();
        fault(mill, "ann is ann", -2);
        fault(mill, "ann is 0 from bob", -2);
        fault(mill, "ann is 3 from bob", -2);
        fault(mill, "ann is 9 from bob", -2);
        fault(mill, "ann is at 3", -2);
        fault(mill, "ann is under bob in 0", -2);
        fault(mill, "1 says ann is under bob in 3", -2);
        fault(mill, "ann is between bob and bob", -2);
        fault(mill, "ann is bob or ann", -2);
        Words.type(mill, "ann is at 2");
        Check.equal("read", mill.read(), 0);
        Check.equal("no fault any more", mill.fault(), RiddleMill.NONE);
        fault(mill, "ann", 3);
        Words.type(mill, "ann is at 2");
        Check.fails("one just like it", STATE, mill::read);
        Check.equal("no such fault", mill.fault(), RiddleMill.NONE);
        Check.equal("the line is empty", mill.type(0), 0);
        for (int k = 1; k < 30; k++) {
            mill.clue(k % 2, 10 + k / 2 % 3, 20 + k / 6 % 3, 0, 0, k / 18 - 1);
        }
        Words.type(mill, "bob is at 2");
        Check.fails("the 31st", STATE, mill::read);
        Check.equal("no such fault", mill.fault(), RiddleMill.NONE);
        fault(mill, "bob is bob", -2);
        Check.equal("30 stay", mill.about(2), 30);
    }

    public static void main(String[] args) {
        naming();
        sentences();
        printing();
        typing();
        faults();
        notAsTold();
        Check.done();
    }
}
