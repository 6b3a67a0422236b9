/** Texts as the longs that name() and type() take. */
final class Words {
    private Words() {
    }

    static long pack(String text) {
        long w = 0;
        for (int k = 0; k < text.length(); k++) {
            w = w << 8 | text.charAt(k);
        }
        return w;
    }

    /** Types a text, eight characters a call; the last answer. */
    static int type(RiddleMill mill, String text) {
        int length = mill.type(0);
        for (int k = 0; k < text.length(); k += 8) {
            length = mill.type(pack(text.substring(k, Math.min(text.length(), k + 8))));
        }
        return length;
    }

    static String shown(RiddleMill mill) {
        StringBuilder text = new StringBuilder();
        for (int c = mill.shown(0); c != RiddleMill.NONE; c = mill.shown(text.length())) {
            text.append((char) c);
        }
        return text.toString();
    }
}
