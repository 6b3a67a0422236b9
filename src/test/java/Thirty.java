/** A riddle of 30 clues, of which the first and the last alone are needed: each thing is at the place of its number. */
final class Thirty {
    private Thirty() {
    }

    static RiddleMill riddle() {
        RiddleMill mill = new RiddleMill(5, 2);
        mill.clue(2, 10, 11, 0, 0, -1);
        for (int x : new int[] {12, 13, 14, 20, 21, 22}) {
            mill.clue(6, x, 0, 0, x % 10, -1);
        }
        for (int speaker = -1; speaker < 2; speaker++) {
            for (int x = 12; x < 15; x++) {
                for (int y = 20; y < 23; y++) {
                    if (x - 10 != y - 20 && mill.about(2) < 29) {
                        mill.clue(1, x, y, 0, 0, speaker);
                    }
                }
            }
        }
        mill.clue(2, 23, 24, 0, 0, -1);
        return mill;
    }
}
