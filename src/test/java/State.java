/** All that can be seen of an object without changing it; some 120 calls for a small riddle, of its 512. */
final class State {
    private State() {
    }

    static String of(RiddleMill mill) {
        StringBuilder text = new StringBuilder();
        text.append(mill.about(0)).append('x').append(mill.about(1)).append(clues(mill)).append(proof(mill));
        text.append(" shown '").append(Words.shown(mill)).append("' fault ").append(mill.fault());
        return text.append(" line ").append(mill.type(0)).toString();
    }

    static String clues(RiddleMill mill) {
        StringBuilder text = new StringBuilder(" clues");
        for (int k = 0; k < mill.about(2); k++) {
            text.append(' ').append(clue(mill, k));
        }
        return text.toString();
    }

    static String clue(RiddleMill mill, int k) {
        StringBuilder text = new StringBuilder("(");
        for (int what = 0; what < 6; what++) {
            text.append(what == 0 ? "" : " ").append(mill.clueAt(k, what));
        }
        return text.append(')').toString();
    }

    static String proof(RiddleMill mill) {
        StringBuilder text = new StringBuilder(" steps");
        for (int k = 0; mill.step(k, 0) != RiddleMill.NONE; k++) {
            text.append(' ').append(step(mill, k));
        }
        text.append(" grid");
        for (int s = 1; s <= mill.about(1); s++) {
            for (int i = 0; i < mill.about(0); i++) {
                text.append(' ').append(mill.may(10 * s + i));
            }
        }
        return text.toString();
    }

    static String step(RiddleMill mill, int k) {
        StringBuilder text = new StringBuilder("(");
        for (int what = 0; what < 4; what++) {
            text.append(what == 0 ? "" : " ").append(mill.step(k, what));
        }
        return text.append(')').toString();
    }
}
