import java.util.List;
import java.util.Random;

/** Promises 5 to 12 on random riddles, compared with the Oracle; the random source is seeded, so runs are alike. */
public final class OracleTest {
    private static int[] randomClue(Oracle oracle, Random random) {
        int[] c = {random.nextInt(10), 0, 0, 0, 0, random.nextInt(4) == 0 ? random.nextInt(2) : -1};
        boolean three = c[0] == 5 || c[0] == 7 || c[0] == 8;
        List<Integer> mixed = new java.util.ArrayList<>(oracle.things);
        java.util.Collections.shuffle(mixed, random);
        c[1] = mixed.get(0);
        c[2] = c[0] == 6 ? 0 : mixed.get(1);
        c[3] = three ? mixed.get(2) : 0;
        c[4] = c[0] == 4 ? 1 + random.nextInt(oracle.n - 1) : c[0] == 6 ? random.nextInt(oracle.n)
            : c[0] == 9 ? 1 + random.nextInt(oracle.k) : 0;
        return c;
    }

    private static void compare(String what, RiddleMill mill, Oracle oracle) {
        int answers = oracle.answers(oracle.clues).size();
        Check.equal(what + " count", mill.count(1000000), answers);
        Check.equal(what + " count, a limit", mill.count(3), Math.min(3, answers));
        Check.equal(what + " answer(0)", mill.answer(0), oracle.answer(0));
        Check.equal(what + " answer(1)", mill.answer(1), oracle.answer(1));
        for (int x : oracle.things) {
            Check.equal(what + " answer(" + x + ")", mill.answer(x), oracle.answer(x));
        }
        for (int k = 0; k < oracle.clues.size(); k++) {
            Check.equal(what + " needed(" + k + ")", mill.needed(k) ? 1 : 0, oracle.needed(k) ? 1 : 0);
        }
        compareProofs(what, mill, oracle);
    }

    private static void compareProofs(String what, RiddleMill mill, Oracle oracle) {
        List<int[]> steps = oracle.proof(oracle.clues);
        Check.equal(what + " prove", mill.prove(), steps.size());
        Check.equal(what + " rating", mill.rating(), oracle.rating(oracle.clues));
        for (int k = 0; k < steps.size(); k++) {
            for (int j = 0; j < 4; j++) {
                Check.equal(what + " step(" + k + ", " + j + ")", mill.step(k, j), steps.get(k)[j]);
            }
        }
        for (int x : oracle.things) {
            int bits = 0;
            for (int p : oracle.grid.get(x)) {
                bits |= 1 << p;
            }
            Check.equal(what + " may(" + x + ")", mill.may(x), bits);
        }
    }

    private static void compareClues(String what, RiddleMill mill, Oracle oracle) {
        Check.equal(what + " clues", mill.about(2), oracle.clues.size());
        for (int k = 0; k < oracle.clues.size(); k++) {
            for (int j = 0; j < 6; j++) {
                Check.equal(what + " clueAt(" + k + ", " + j + ")", mill.clueAt(k, j), oracle.clues.get(k)[j]);
            }
        }
    }

    /** Clues at random, or, with a world, such as are so in it. */
    private static void fill(RiddleMill mill, Oracle oracle, Random random, int most, Oracle.World world) {
        for (int k = 0; k < most; k++) {
            int[] c = randomClue(oracle, random);
            if (world != null && !oracle.says(c, world.at())) {
                continue;
            }
            try {
                mill.clue(c[0], c[1], c[2], c[3], c[4], c[5]);
                oracle.clues.add(c);
            } catch (IllegalStateException e) {
                Check.isTrue("twice alike", oracle.clues.stream().anyMatch(o -> java.util.Arrays.equals(o, c)));
            }
        }
    }

    private static void riddles(int n, int k, int rounds, Random random) {
        Oracle oracle = new Oracle(n, k);
        for (int round = 0; round < rounds; round++) {
            RiddleMill mill = new RiddleMill(n, k);
            oracle.clues.clear();
            fill(mill, oracle, random, 1 + random.nextInt(7), null);
            compare(n + "x" + k + " riddle " + round, mill, oracle);
            int gone = random.nextInt(oracle.clues.size());
            mill.drop(gone);
            oracle.clues.remove(gone);
            compareClues(n + "x" + k + " riddle " + round, mill, oracle);
        }
    }

    private static void proofs(int n, int k, int rounds, Random random) {
        Oracle oracle = new Oracle(n, k);
        for (int round = 0; round < rounds; round++) {
            RiddleMill mill = new RiddleMill(n, k);
            oracle.clues.clear();
            Oracle.World world = round % 3 == 0 ? null : oracle.world(random.nextInt(60000));
            fill(mill, oracle, random, random.nextInt(30), world);
            compareProofs(n + "x" + k + " proof " + round, mill, oracle);
        }
    }

    private static void makings(int n, int k, int rounds, Random random) {
        Oracle oracle = new Oracle(n, k);
        for (int round = 0; round < rounds; round++) {
            int seed = 1 + random.nextInt(2147483646);
            int rating = round % 2 == 0 ? 5 : 1 + random.nextInt(5);
            oracle.clues.clear();
            making(new RiddleMill(n, k), oracle, seed, rating);
        }
    }

    private static void making(RiddleMill mill, Oracle oracle, int seed, int rating) {
        String what = oracle.n + "x" + oracle.k + " make(" + seed + ", " + rating + ")";
        Check.equal(what, mill.make(seed, rating), oracle.make(seed, rating));
        compareClues(what, mill, oracle);
        compareProofs(what, mill, oracle);
    }

    /** Seeds of which 23 or 25 clues in place of 24 would make another riddle. */
    private static void makingsOfJust24() {
        for (int seed : new int[] {202, 678, 2031, 3159}) {
            making(new RiddleMill(3, 3), new Oracle(3, 3), seed, 5);
        }
        for (int seed : new int[] {424, 1862}) {
            making(new RiddleMill(4, 2), new Oracle(4, 2), seed, 5);
        }
    }

    public static void main(String[] args) {
        Random random = new Random(20261115);
        for (int size : new int[] {31, 32, 33, 41, 42, 43, 51, 52}) {
            boolean large = size == 43 || size == 52;
            riddles(size / 10, size % 10, large ? 12 : 60, random);
            proofs(size / 10, size % 10, 150, random);
            makings(size / 10, size % 10, large ? 6 : 30, random);
        }
        makingsOfJust24();
        Check.done();
    }
}
