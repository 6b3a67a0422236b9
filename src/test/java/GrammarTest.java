import java.util.ArrayList;
import java.util.HashMap;
import java.util.HashSet;
import java.util.List;
import java.util.Map;
import java.util.Random;
import java.util.Set;

/** Promises 16 to 18: random lines, compared with the list of all sentences and of all their beginnings. */
public final class GrammarTest {
    private static final String[] NAMES = {"ann", "bob", "i", "tea", "isa", "zzzzzz"};
    private static final String[] FORMS = {"x is y", "x is not y", "x is left of y", "x is next to y", "x is d from y",
        "x is between y and z", "x is at d", "x is y or z", "x is either y or z", "x is under y in d"};

    private static final int LINES_OF_A_MILL = 5;

    private static final Map<String, int[]> SENTENCES = new HashMap<>();
    private static final Set<String> BEGINNINGS = new HashSet<>();

    private static int thing(int name) {
        return 10 * (name / 3 + 1) + name % 3;
    }

    private static void listSentences() {
        for (int kind = 0; kind < 10; kind++) {
            boolean hasY = FORMS[kind].contains("y");
            boolean hasZ = FORMS[kind].endsWith("z");
            boolean hasD = FORMS[kind].contains(" d");
            for (int x = 0; x < 6; x++) {
                for (int y = 0; y < (hasY ? 6 : 1); y++) {
                    for (int z = 0; z < (hasZ ? 6 : 1); z++) {
                        for (int d = 0; d < (hasD ? 10 : 1); d++) {
                            int[] c = {kind, thing(x), hasY ? thing(y) : 0, hasZ ? thing(z) : 0, d, -1};
                            listSentence(c, x, y, z, d);
                        }
                    }
                }
            }
        }
    }

    private static void listSentence(int[] c, int x, int y, int z, int d) {
        for (int speaker = -1; speaker < 2; speaker++) {
            StringBuilder text = new StringBuilder(speaker == -1 ? "" : speaker + " says ");
            for (String word : FORMS[c[0]].split(" ")) {
                text.append(word.equals("x") ? NAMES[x] : word.equals("y") ? NAMES[y] : word.equals("z") ? NAMES[z]
                    : word.equals("d") ? "" + d : word).append(' ');
            }
            String sentence = text.substring(0, text.length() - 1);
            int[] told = c.clone();
            told[5] = speaker;
            SENTENCES.put(sentence, told);
            for (int k = 0; k <= sentence.length(); k++) {
                if (k == sentence.length() || sentence.charAt(k) == ' ') {
                    BEGINNINGS.add(sentence.substring(0, k));
                }
            }
        }
    }

    /** The fault that is due for a line that is no sentence. */
    private static int faultOf(String line) {
        int start = 0;
        for (String word : line.split(" ", -1)) {
            if (!BEGINNINGS.contains(line.substring(0, start + word.length()))) {
                return start;
            }
            start += word.length() + 1;
        }
        return line.length();
    }

    private static boolean isAsTold(int[] c) {
        boolean different = c[1] != c[2] && c[1] != c[3] && (c[2] == 0 || c[2] != c[3]);
        int d = c[4];
        return different && (c[0] == 4 ? d >= 1 && d <= 2 : c[0] == 6 ? d <= 2 : c[0] == 9 ? d >= 1 && d <= 2 : d == 0);
    }

    private static void compare(RiddleMill mill, String line) {
        Words.type(mill, line);
        int[] c = SENTENCES.get(line);
        if (c == null || !isAsTold(c)) {
            Check.fails("read '" + line + "'", IllegalArgumentException.class, mill::read);
            Check.equal("fault of '" + line + "'", mill.fault(), c == null ? faultOf(line) : -2);
        } else {
            Check.equal("read '" + line + "'", mill.read(), 0);
            Check.equal("fault of '" + line + "'", mill.fault(), -1);
            for (int j = 0; j < 6; j++) {
                Check.equal("clueAt(0, " + j + ") of '" + line + "'", mill.clueAt(0, j), c[j]);
            }
            Check.equal("print '" + line + "'", mill.print(0), line.length());
            Check.isTrue("shown '" + line + "'", Words.shown(mill).equals(line));
            mill.drop(0);
        }
        Check.equal("the line is empty", mill.type(0), 0);
    }

    private static String spoilt(String line, Random random) {
        List<String> words = new ArrayList<>(List.of(line.split(" ")));
        String[] all = ("ann bob i tea isa zzzzzz is not left next of to from between and at or either under in says "
            + "0 1 2 3 9 10 01 -1 an annn eye betweens . ").split(" ", -1);
        String word = all[random.nextInt(all.length)];
        int k = random.nextInt(words.size());
        switch (random.nextInt(5)) {
            case 0: words.set(k, word); break;
            case 1: words.add(k, word); break;
            case 2: words.remove(k); break;
            case 3: words.add(word); break;
            default: return line.substring(0, random.nextInt(line.length() + 1));
        }
        return String.join(" ", words);
    }

    /** A mill has 512 calls: enough for a few lines. */
    private static RiddleMill named() {
        RiddleMill mill = new RiddleMill(3, 2);
        for (int k = 0; k < NAMES.length; k++) {
            Check.isTrue("name " + NAMES[k], mill.name(thing(k), Words.pack(NAMES[k])));
        }
        return mill;
    }

    private static void compareAll(List<String> lines) {
        for (int k = 0; k < lines.size(); k += LINES_OF_A_MILL) {
            RiddleMill mill = named();
            for (String line : lines.subList(k, Math.min(lines.size(), k + LINES_OF_A_MILL))) {
                compare(mill, line);
            }
        }
    }

    public static void main(String[] args) {
        listSentences();
        List<String> sentences = new ArrayList<>(new java.util.TreeSet<>(SENTENCES.keySet()));
        compareAll(sentences);
        Random random = new Random(20261115);
        List<String> lines = new ArrayList<>();
        for (int round = 0; round < 20000; round++) {
            String line = spoilt(sentences.get(random.nextInt(sentences.size())), random);
            lines.add(random.nextInt(4) == 0 && !line.isEmpty() ? spoilt(line, random) : line);
        }
        compareAll(lines);
        Check.done();
    }
}
