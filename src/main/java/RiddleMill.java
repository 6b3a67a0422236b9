/**
 * Riddles of who is where: clues about things at places, told by nobody or by speakers; their answers, proofs, making
 * and sentences.
 */
public final class RiddleMill {
    public static final int NONE = -1;

    private static final int MOST_CLUES = 30;
    private static final int LINE_ROOM = 60;
    private static final int NOT_AS_TOLD = -2;

    /** For rows that are indexed by a thing's number, the greatest of which is 33. */
    private static final int THING_ROOM = 40;

    private static final int SAME = 0;
    private static final int APART = 1;
    private static final int LEFT = 2;
    private static final int NEXT = 3;
    private static final int DISTANT = 4;
    private static final int BETWEEN = 5;
    private static final int AT = 6;
    private static final int ONE_OR_BOTH = 7;
    private static final int JUST_ONE = 8;
    private static final int UNDER = 9;
    private static final int KINDS = 10;

    private final int places;
    private final int sorts;
    private final ClueList clues;
    private final Worlds worlds;
    private final Proof proof;
    /** A proof of its own for ratings, since those leave the steps of the latest prove(). */
    private final Proof trial;
    private final Maker maker;
    private final Speech speech;

    public RiddleMill(int things, int sorts) {
        this.places = Math.max(3, Math.min(5, things));
        this.sorts = Math.max(1, Math.min(this.places == 5 ? 2 : 3, sorts));
        this.clues = new ClueList();
        this.worlds = new Worlds(this.places, this.sorts);
        this.proof = new Proof(this.places, this.sorts);
        this.trial = new Proof(this.places, this.sorts);
        this.maker = new Maker(this.places, this.sorts);
        this.speech = new Speech();
    }

    public int clue(int kind, int x, int y, int z, int d, int speaker)
            throws IllegalArgumentException, IllegalStateException {
        if (!isAsTold(kind, x, y, z, d, speaker)) {
            throw new IllegalArgumentException("the clue is not as told");
        }
        return added(Code.of(kind, x, y, z, d, speaker));
    }

    public void drop(int k) throws IndexOutOfBoundsException {
        if (!clues.has(k)) {
            throw new IndexOutOfBoundsException("there is no such clue");
        }
        clues.removeAt(k);
    }

    public int clueAt(int k, int what) {
        if (!clues.has(k)) {
            return NONE;
        }
        int code = clues.codes[k];
        switch (what) {
            case 0: return Code.kind(code);
            case 1: return Code.x(code);
            case 2: return Code.y(code);
            case 3: return Code.z(code);
            case 4: return Code.d(code);
            case 5: return Code.speaker(code);
            default: return NONE;
        }
    }

    public int count(int limit) throws IllegalArgumentException {
        if (limit < 0) {
            throw new IllegalArgumentException("the limit is below 0");
        }
        return worlds.number(clues, limit);
    }

    public int answer(int x) {
        boolean known = x == 0 || x == 1 || isThing(x);
        return known ? worlds.alike(clues, x) : NONE;
    }

    public boolean needed(int k) throws IndexOutOfBoundsException {
        if (!clues.has(k)) {
            throw new IndexOutOfBoundsException("there is no such clue");
        }
        return worlds.differ(clues, k);
    }

    public int prove() {
        proof.run(clues);
        return proof.length;
    }

    public int step(int k, int what) {
        if (k < 0 || k >= proof.length) {
            return NONE;
        }
        switch (what) {
            case 0: return proof.stepRules[k];
            case 1: return proof.stepClues[k];
            case 2: return proof.stepThings[k];
            case 3: return proof.stepPlaces[k];
            default: return NONE;
        }
    }

    public int may(int x) {
        return isThing(x) ? proof.grid[x] : 0;
    }

    public int rating() {
        trial.run(clues);
        return trial.reached;
    }

    public int make(int seed, int rating) throws IllegalArgumentException {
        if (seed < 1 || seed > Maker.MODULUS - 1 || rating < 1 || rating > 5) {
            throw new IllegalArgumentException("no such seed or rating");
        }
        int times = maker.find(seed, rating, worlds, trial);
        if (times > 0) {
            clues.takeAll(maker.riddle);
        }
        return times;
    }

    public boolean name(int x, long w) {
        return isThing(x) && speech.giveName(x, w);
    }

    public int print(int k) {
        return clues.has(k) ? speech.show(clues.codes[k]) : 0;
    }

    public int shown(int k) {
        return k >= 0 && k < speech.textLength ? speech.text[k] : NONE;
    }

    public int type(long w) {
        return speech.append(w);
    }

    public int read() throws IllegalArgumentException, IllegalStateException {
        if (!speech.parse()) {
            throw new IllegalArgumentException("the line is no sentence");
        }
        int code = speech.parsed;
        if (!isAsTold(Code.kind(code), Code.x(code), Code.y(code), Code.z(code), Code.d(code), Code.speaker(code))) {
            speech.faultPlace = NOT_AS_TOLD;
            throw new IllegalArgumentException("the clue is not as told");
        }
        return added(code);
    }

    public int fault() {
        return speech.faultPlace;
    }

    public int about(int what) {
        switch (what) {
            case 0: return places;
            case 1: return sorts;
            case 2: return clues.size;
            default: return NONE;
        }
    }

    private int added(int code) {
        if (clues.size >= MOST_CLUES || clues.contains(code)) {
            throw new IllegalStateException("there are 30 clues, or there is one just like it");
        }
        clues.add(code);
        return clues.size - 1;
    }

    private boolean isThing(int x) {
        return x >= 10 && x / 10 <= sorts && x % 10 < places;
    }

    private boolean isAsTold(int kind, int x, int y, int z, int d, int speaker) {
        if (kind < 0 || kind >= KINDS || speaker < NONE || speaker > 1) {
            return false;
        }
        int named = Code.thingsOf(kind);
        return isThing(x)
                && (named >= 2 ? isThing(y) && y != x : y == 0)
                && (named == 3 ? isThing(z) && z != x && z != y : z == 0)
                && d >= Code.leastD(kind) && d <= Code.greatestD(kind, places, sorts);
    }

    /** A clue in one int: so clues are mixed, compared and kept without an object for each. */
    private static final class Code {
        static int of(int kind, int x, int y, int z, int d, int speaker) {
            return kind | x << 4 | y << 10 | z << 16 | d << 22 | speaker + 1 << 26;
        }

        static int kind(int code) {
            return code & 15;
        }

        static int x(int code) {
            return code >> 4 & 63;
        }

        static int y(int code) {
            return code >> 10 & 63;
        }

        static int z(int code) {
            return code >> 16 & 63;
        }

        static int d(int code) {
            return code >> 22 & 15;
        }

        static int speaker(int code) {
            return (code >> 26 & 3) - 1;
        }

        static int thingsOf(int kind) {
            if (kind == AT) {
                return 1;
            }
            return kind == BETWEEN || kind == ONE_OR_BOTH || kind == JUST_ONE ? 3 : 2;
        }

        static int leastD(int kind) {
            return kind == DISTANT || kind == UNDER ? 1 : 0;
        }

        static int greatestD(int kind, int places, int sorts) {
            if (kind == DISTANT || kind == AT) {
                return places - 1;
            }
            return kind == UNDER ? sorts : 0;
        }

        /** The rule of a proof that uses clues of this kind. */
        static int ruleOf(int kind) {
            if (kind == UNDER) {
                return NONE;
            }
            return thingsOf(kind) == 3 ? 5 : 3;
        }

        static int thingAt(int index, int places) {
            return 10 * (index / places + 1) + index % places;
        }

        /** The least thing of the clue above another one, NONE if there is none. */
        static int thingAfter(int code, int before) {
            int least = THING_ROOM;
            int x = x(code);
            int y = y(code);
            int z = z(code);
            if (x > before) {
                least = x;
            }
            if (y > before && y < least) {
                least = y;
            }
            if (z > before && z < least) {
                least = z;
            }
            return least == THING_ROOM ? NONE : least;
        }

        /** Whether a clue's words are so with x, y, z at a, b, c; for UNDER a, b are the numbers of what is there. */
        static boolean isSo(int kind, int d, int a, int b, int c) {
            switch (kind) {
                case SAME: return a == b;
                case APART: return a != b;
                case LEFT: return a < b;
                case NEXT: return a - b == 1 || b - a == 1;
                case DISTANT: return a - b == d || b - a == d;
                case BETWEEN: return b < a && a < c || c < a && a < b;
                case AT: return a == d;
                case ONE_OR_BOTH: return a == b || a == c;
                case JUST_ONE: return (a == b) != (a == c);
                default: return a < b;
            }
        }
    }

    private static final class ClueList {
        final int[] codes = new int[MOST_CLUES];
        int size;

        boolean has(int k) {
            return k >= 0 && k < size;
        }

        boolean contains(int code) {
            for (int k = 0; k < size; k++) {
                if (codes[k] == code) {
                    return true;
                }
            }
            return false;
        }

        void add(int code) {
            if (size < MOST_CLUES) {
                codes[size] = code;
                size++;
            }
        }

        void removeAt(int k) {
            if (!has(k)) {
                return;
            }
            for (int i = k; i + 1 < size; i++) {
                codes[i] = codes[i + 1];
            }
            size--;
        }

        void takeAll(ClueList other) {
            System.arraycopy(other.codes, 0, codes, 0, other.size);
            size = other.size;
        }
    }

    /** Seeks answers: things get their places one by one, and each clue is heard as soon as its things have theirs. */
    private static final class Worlds {
        /** Two bits for each speaker, 1 he may lie, 2 he may tell the truth: nothing is known of either. */
        private static final int ANY_SPEAKERS = 15;
        /** Far above the 57600 worlds that there are at most. */
        private static final int NO_LIMIT = 1000000;

        private final int places;
        private final int things;
        private final int[] at = new int[THING_ROOM];
        /** For 10 * sort + place: the number of the thing there. */
        private final int[] who = new int[THING_ROOM];
        /** For each sort, a bit for each place that one of its things has. */
        private final int[] taken = new int[4];
        private final int[] queue = new int[MOST_CLUES];
        private final int[] dues = new int[MOST_CLUES];
        /** The clues to hear behind the placing of thing i stand in the queue from starts[i] to starts[i + 1]. */
        private final int[] starts = new int[THING_ROOM];
        private int limit;
        private int mostPlacings;
        private int watched;
        private int counted;
        private int placings;
        private int seen;
        private boolean enough;

        Worlds(int places, int sorts) {
            this.places = places;
            this.things = places * sorts;
        }

        int number(ClueList clues, int most) {
            if (most <= 0) {
                return 0;
            }
            prepare(clues, NONE);
            limit = most;
            placeFrom(0, ANY_SPEAKERS);
            return Math.min(counted, most);
        }

        /** Whether there are answers, without the clue skipped, that differ in the place of a thing. */
        boolean differ(ClueList clues, int skipped) {
            prepare(clues, skipped);
            mostPlacings = 2;
            placeFrom(0, ANY_SPEAKERS);
            return placings >= 2;
        }

        int alike(ClueList clues, int x) {
            prepare(clues, NONE);
            watched = x;
            placeFrom(0, ANY_SPEAKERS);
            return seen == 0 || isMany(seen) ? NONE : Integer.bitCount(seen - 1);
        }

        private void prepare(ClueList clues, int skipped) {
            limit = NO_LIMIT;
            mostPlacings = NO_LIMIT;
            watched = NONE;
            counted = 0;
            placings = 0;
            seen = 0;
            enough = false;
            for (int k = 0; k < clues.size; k++) {
                dues[k] = k == skipped ? NONE : dueAt(clues.codes[k]);
            }
            int queued = 0;
            for (int i = 0; i < things; i++) {
                starts[i] = queued;
                for (int k = 0; k < clues.size; k++) {
                    if (dues[k] == i) {
                        queue[queued] = clues.codes[k];
                        queued++;
                    }
                }
            }
            starts[things] = queued;
        }

        private int dueAt(int code) {
            int last = Math.max(Code.x(code), Math.max(Code.y(code), Code.z(code)));
            if (Code.kind(code) == UNDER) {
                last = Math.max(last, 10 * Code.d(code) + places - 1);
            }
            return (last / 10 - 1) * places + last % 10;
        }

        private void placeFrom(int index, int speakers) {
            if (index >= things) {
                take(speakers);
                return;
            }
            int sort = index / places + 1;
            int thing = 10 * sort + index % places;
            for (int p = 0; p < places && !enough; p++) {
                if ((taken[sort] >> p & 1) != 0) {
                    continue;
                }
                at[thing] = p;
                who[10 * sort + p] = thing % 10;
                int left = heard(index, speakers);
                if (left != 0) {
                    taken[sort] |= 1 << p;
                    placeFrom(index + 1, left);
                    taken[sort] &= ~(1 << p);
                }
            }
        }

        /** What the speakers may be behind the clues that are due now; 0 if one does not hold. */
        private int heard(int index, int speakers) {
            int left = speakers;
            for (int k = starts[index]; k < starts[index + 1]; k++) {
                int code = queue[k];
                int kind = Code.kind(code);
                int d = Code.d(code);
                int a = at[Code.x(code)];
                int b = at[Code.y(code)];
                if (kind == UNDER) {
                    a = who[10 * d + a];
                    b = who[10 * d + b];
                }
                boolean so = Code.isSo(kind, d, a, b, at[Code.z(code)]);
                int speaker = Code.speaker(code);
                if (speaker == NONE) {
                    if (!so) {
                        return 0;
                    }
                } else {
                    left &= ~((so ? 1 : 2) << 2 * speaker);
                    if ((left >> 2 * speaker & 3) == 0) {
                        return 0;
                    }
                }
            }
            return left;
        }

        private void take(int speakers) {
            placings++;
            counted += Integer.bitCount(speakers & 3) * Integer.bitCount(speakers >> 2);
            if (watched >= 10) {
                seen |= 1 << at[watched];
            } else if (watched >= 0) {
                seen |= speakers >> 2 * watched & 3;
            }
            enough = counted >= limit || placings >= mostPlacings || isMany(seen);
        }

        private static boolean isMany(int bits) {
            return (bits & bits - 1) != 0;
        }
    }

    private static final class Proof {
        /** Each step takes a place from a thing, and there are at most 10 things with 5, or 12 with 4. */
        private static final int MOST_STEPS = 50;

        private final int places;
        private final int things;
        /** For each thing a bit for each place where it may be; all 0 as long as no proof was made. */
        final int[] grid = new int[THING_ROOM];
        final int[] stepRules = new int[MOST_STEPS];
        final int[] stepClues = new int[MOST_STEPS];
        final int[] stepThings = new int[MOST_STEPS];
        final int[] stepPlaces = new int[MOST_STEPS];
        int length;
        /** The rating that the proof has shown. */
        int reached;
        private boolean broken;

        Proof(int places, int sorts) {
            this.places = places;
            this.things = places * sorts;
        }

        void run(ClueList clues) {
            length = 0;
            reached = 0;
            broken = false;
            for (int i = 0; i < things; i++) {
                grid[Code.thingAt(i, places)] = (1 << places) - 1;
            }
            boolean goesOn = true;
            for (int k = 0; k < MOST_STEPS && goesOn && !broken; k++) {
                goesOn = bySort(1) || bySort(2) || byClues(3, clues) || bySort(4) || byClues(5, clues);
            }
            if (!isSolved()) {
                reached = 0;
            }
        }

        private boolean isSolved() {
            for (int i = 0; i < things; i++) {
                if (Integer.bitCount(grid[Code.thingAt(i, places)]) != 1) {
                    return false;
                }
            }
            return true;
        }

        private boolean bySort(int rule) {
            for (int i = 0; i < things; i++) {
                int thing = Code.thingAt(i, places);
                int going = grid[thing] & barred(rule, thing);
                if (going != 0) {
                    take(rule, NONE, thing, Integer.bitCount((going & -going) - 1));
                    return true;
                }
            }
            return false;
        }

        private int barred(int rule, int thing) {
            switch (rule) {
                case 1: return barredByLone(thing);
                case 2: return barredByOwn(thing);
                default: return barredByPairs(thing);
            }
        }

        private int barredByLone(int thing) {
            int bits = 0;
            int first = thing - thing % 10;
            for (int other = first; other < first + places; other++) {
                if (other != thing && Integer.bitCount(grid[other]) == 1) {
                    bits |= grid[other];
                }
            }
            return bits;
        }

        private int barredByOwn(int thing) {
            int own = grid[thing];
            int first = thing - thing % 10;
            for (int other = first; other < first + places; other++) {
                if (other != thing) {
                    own &= ~grid[other];
                }
            }
            if (own == 0) {
                return 0;
            }
            // Of two places that are its own, each one bars the other.
            return Integer.bitCount(own) == 1 ? ~own : ~0;
        }

        private int barredByPairs(int thing) {
            int bits = 0;
            int first = thing - thing % 10;
            for (int a = first; a < first + places; a++) {
                if (a == thing || Integer.bitCount(grid[a]) != 2) {
                    continue;
                }
                for (int b = a + 1; b < first + places; b++) {
                    if (b != thing && grid[b] == grid[a]) {
                        bits |= grid[a];
                    }
                }
            }
            return bits;
        }

        private boolean byClues(int rule, ClueList clues) {
            for (int k = 0; k < clues.size; k++) {
                int code = clues.codes[k];
                boolean used = Code.speaker(code) == NONE && Code.ruleOf(Code.kind(code)) == rule;
                if (used && byClue(rule, k, code)) {
                    return true;
                }
            }
            return false;
        }

        private boolean byClue(int rule, int k, int code) {
            int thing = Code.thingAfter(code, 0);
            for (int i = 0; i < 3 && thing != NONE; i++) {
                for (int p = 0; p < places; p++) {
                    if ((grid[thing] >> p & 1) != 0 && !canBeSo(code, thing, p)) {
                        take(rule, k, thing, p);
                        return true;
                    }
                }
                thing = Code.thingAfter(code, thing);
            }
            return false;
        }

        /** Whether the clue can be so with the thing at the place, and its other things where they may be. */
        private boolean canBeSo(int code, int thing, int place) {
            int kind = Code.kind(code);
            int d = Code.d(code);
            int x = Code.x(code);
            int y = Code.y(code);
            int z = Code.z(code);
            int forX = bitsFor(x, thing, place);
            int forY = bitsFor(y, thing, place);
            int forZ = bitsFor(z, thing, place);
            for (int a = 0; a < places; a++) {
                if ((forX >> a & 1) == 0) {
                    continue;
                }
                int leftForY = y / 10 == x / 10 ? forY & ~(1 << a) : forY;
                int leftForZ = z / 10 == x / 10 ? forZ & ~(1 << a) : forZ;
                for (int b = 0; b < places; b++) {
                    if ((leftForY >> b & 1) == 0) {
                        continue;
                    }
                    int last = z != 0 && z / 10 == y / 10 ? leftForZ & ~(1 << b) : leftForZ;
                    for (int c = 0; c < places; c++) {
                        if ((last >> c & 1) != 0 && Code.isSo(kind, d, a, b, c)) {
                            return true;
                        }
                    }
                }
            }
            return false;
        }

        /** Where one of the clue's things may be; a thing that the clue lacks counts as being at place 0. */
        private int bitsFor(int x, int thing, int place) {
            if (x == 0) {
                return 1;
            }
            return x == thing ? 1 << place : grid[x];
        }

        private void take(int rule, int clue, int thing, int place) {
            if (length < MOST_STEPS) {
                stepRules[length] = rule;
                stepClues[length] = clue;
                stepThings[length] = thing;
                stepPlaces[length] = place;
                length++;
            }
            grid[thing] &= ~(1 << place);
            broken = grid[thing] == 0;
            reached = Math.max(reached, rule);
        }
    }

    private static final class Maker {
        static final int MODULUS = 2147483647;

        private static final int MULTIPLIER = 48271;
        private static final int MOST_TIMES = 4;
        private static final int RIDDLE_SIZE = 24;
        /** With 4 places and 3 sorts 303 clues are so in a world, with all else fewer. */
        private static final int MOST_POSSIBLE = 320;

        private final int places;
        private final int things;
        private final int[] at = new int[THING_ROOM];
        private final int[] possible = new int[MOST_POSSIBLE];
        private int possibleCount;
        private long drawn;
        final ClueList riddle = new ClueList();

        Maker(int places, int sorts) {
            this.places = places;
            this.things = places * sorts;
        }

        /** How many times it took until a riddle of this rating was there; 0 if none was. */
        int find(int seed, int rating, Worlds worlds, Proof trial) {
            drawn = seed;
            for (int time = 1; time <= MOST_TIMES; time++) {
                drawWorld();
                gather();
                mix();
                riddle.size = 0;
                for (int k = 0; k < possibleCount && k < RIDDLE_SIZE; k++) {
                    riddle.add(possible[k]);
                }
                if (!worlds.differ(riddle, NONE)) {
                    thinOut(worlds);
                }
                trial.run(riddle);
                if (trial.reached == rating) {
                    return time;
                }
            }
            return 0;
        }

        private int draw(int n) {
            drawn = MULTIPLIER * drawn % MODULUS;
            return (int) (drawn % n);
        }

        private void drawWorld() {
            for (int i = 0; i < things; i++) {
                at[Code.thingAt(i, places)] = i % places;
            }
            for (int first = 10; first <= 10 * (things / places); first += 10) {
                for (int k = places - 1; k >= 1; k--) {
                    int j = draw(k + 1);
                    int place = at[first + k];
                    at[first + k] = at[first + j];
                    at[first + j] = place;
                }
            }
        }

        private void gather() {
            possibleCount = 0;
            for (int kind = SAME; kind <= AT; kind++) {
                for (int i = 0; i < things; i++) {
                    gatherFor(kind, Code.thingAt(i, places));
                }
            }
        }

        private void gatherFor(int kind, int x) {
            if (kind == AT) {
                consider(kind, x, 0, 0);
                return;
            }
            for (int i = 0; i < things; i++) {
                int y = Code.thingAt(i, places);
                if (!isPair(kind, x, y)) {
                    continue;
                }
                if (kind != BETWEEN) {
                    consider(kind, x, y, 0);
                    continue;
                }
                for (int j = i + 1; j < things; j++) {
                    int z = Code.thingAt(j, places);
                    if (z != x) {
                        consider(kind, x, y, z);
                    }
                }
            }
        }

        private static boolean isPair(int kind, int x, int y) {
            switch (kind) {
                case SAME:
                case APART: return x < y && x / 10 != y / 10;
                case NEXT:
                case DISTANT: return x < y;
                default: return x != y;
            }
        }

        private void consider(int kind, int x, int y, int z) {
            for (int d = Code.leastD(kind); d <= Code.greatestD(kind, places, 0); d++) {
                if (Code.isSo(kind, d, at[x], at[y], at[z]) && possibleCount < MOST_POSSIBLE) {
                    possible[possibleCount] = Code.of(kind, x, y, z, d, NONE);
                    possibleCount++;
                }
            }
        }

        private void mix() {
            for (int k = possibleCount - 1; k >= 1; k--) {
                int j = draw(k + 1);
                int code = possible[k];
                possible[k] = possible[j];
                possible[j] = code;
            }
        }

        private void thinOut(Worlds worlds) {
            for (int k = riddle.size - 1; k >= 0; k--) {
                if (!worlds.differ(riddle, k)) {
                    riddle.removeAt(k);
                }
            }
        }
    }

    /** Names, the line and what is shown. A word is a long whose bytes are its letters, the last one the lowest. */
    private static final class Speech {
        private static final int NAME_ROOM = 6;
        private static final int WORD_ROOM = 7;
        private static final long NO_WORD = -1;
        private static final char BLANK = ' ';

        private static final long IS = 0x6973L;
        private static final long NOT = 0x6e6f74L;
        private static final long LEFT_WORD = 0x6c656674L;
        private static final long NEXT_WORD = 0x6e657874L;
        private static final long OF = 0x6f66L;
        private static final long TO = 0x746fL;
        private static final long FROM = 0x66726f6dL;
        private static final long BETWEEN_WORD = 0x6265747765656eL;
        private static final long AND = 0x616e64L;
        private static final long AT_WORD = 0x6174L;
        private static final long OR = 0x6f72L;
        private static final long EITHER = 0x656974686572L;
        private static final long UNDER_WORD = 0x756e646572L;
        private static final long IN = 0x696eL;
        private static final long SAYS = 0x73617973L;

        private static final long[] WORDS = {
            IS, NOT, LEFT_WORD, NEXT_WORD, OF, TO, FROM, BETWEEN_WORD, AND, AT_WORD, OR, EITHER, UNDER_WORD, IN, SAYS,
        };

        /** What stands in a form where a word does not: its end, a thing's name, a number. */
        private static final long END = 0;
        private static final long X = 1;
        private static final long Y = 2;
        private static final long Z = 3;
        private static final long D = 4;
        private static final int SLOTS = 5;

        private static final int FORM_ROOM = 7;
        private static final long[] FORMS = {
            X, IS, Y, END, END, END, END,
            X, IS, NOT, Y, END, END, END,
            X, IS, LEFT_WORD, OF, Y, END, END,
            X, IS, NEXT_WORD, TO, Y, END, END,
            X, IS, D, FROM, Y, END, END,
            X, IS, BETWEEN_WORD, Y, AND, Z, END,
            X, IS, AT_WORD, D, END, END, END,
            X, IS, Y, OR, Z, END, END,
            X, IS, EITHER, Y, OR, Z, END,
            X, IS, UNDER_WORD, Y, IN, D, END,
        };

        private final long[] names = new long[THING_ROOM];
        private final int[] line = new int[LINE_ROOM];
        private int lineLength;
        final int[] text = new int[LINE_ROOM];
        int textLength;
        int faultPlace = NONE;
        int parsed;
        private final int[] slots = new int[SLOTS];
        /** Where the word to be read begins, where it ends, and where the line does. */
        private int wordStart;
        private int wordEnd;
        private int lineEnd;

        boolean giveName(int x, long w) {
            long word = wordOf(w);
            if (word == NO_WORD || isWord(word)) {
                return false;
            }
            int owner = thingNamed(word);
            if (owner != NONE && owner != x) {
                return false;
            }
            names[x] = word;
            return true;
        }

        private static long wordOf(long w) {
            long word = 0;
            int letters = 0;
            for (int shift = 56; shift >= 0; shift -= 8) {
                int letter = (int) (w >> shift & 255);
                if (letter == 0) {
                    continue;
                }
                if (letter < 'a' || letter > 'z') {
                    return NO_WORD;
                }
                word = word << 8 | letter;
                letters++;
            }
            return letters >= 1 && letters <= NAME_ROOM ? word : NO_WORD;
        }

        private static boolean isWord(long word) {
            for (int k = 0; k < WORDS.length; k++) {
                if (WORDS[k] == word) {
                    return true;
                }
            }
            return false;
        }

        private int thingNamed(long word) {
            for (int x = 0; x < THING_ROOM; x++) {
                if (word != 0 && names[x] == word) {
                    return x;
                }
            }
            return NONE;
        }

        /** The clue becomes the text: its length; 0, and the text stays, if a name is lacking. */
        int show(int code) {
            if (lacksName(Code.x(code)) || lacksName(Code.y(code)) || lacksName(Code.z(code))) {
                return 0;
            }
            slots[(int) X] = Code.x(code);
            slots[(int) Y] = Code.y(code);
            slots[(int) Z] = Code.z(code);
            slots[(int) D] = Code.d(code);
            textLength = 0;
            if (Code.speaker(code) != NONE) {
                put('0' + Code.speaker(code));
                putWord(SAYS);
            }
            for (int j = 0; j < FORM_ROOM; j++) {
                long token = FORMS[FORM_ROOM * Code.kind(code) + j];
                if (token == END) {
                    break;
                }
                if (token == D) {
                    putWord('0' + slots[(int) D]);
                } else {
                    putWord(token < D ? names[slots[(int) token]] : token);
                }
            }
            return textLength;
        }

        private boolean lacksName(int x) {
            return x != 0 && names[x] == 0;
        }

        private void putWord(long word) {
            if (textLength > 0) {
                put(BLANK);
            }
            for (int shift = 56; shift >= 0; shift -= 8) {
                int letter = (int) (word >> shift & 255);
                if (letter != 0) {
                    put(letter);
                }
            }
        }

        private void put(int letter) {
            if (textLength < LINE_ROOM) {
                text[textLength] = letter;
                textLength++;
            }
        }

        int append(long w) {
            int more = 0;
            for (int shift = 56; shift >= 0; shift -= 8) {
                int letter = (int) (w >> shift & 255);
                if (letter != 0 && (letter < 32 || letter > 126)) {
                    return NONE;
                }
                more += letter == 0 ? 0 : 1;
            }
            if (lineLength + more > LINE_ROOM) {
                return NONE;
            }
            for (int shift = 56; shift >= 0; shift -= 8) {
                int letter = (int) (w >> shift & 255);
                if (letter != 0) {
                    line[lineLength] = letter;
                    lineLength++;
                }
            }
            return lineLength;
        }

        /** Reads the line away: true if it is a sentence, whose clue, told rightly or not, is then in parsed. */
        boolean parse() {
            lineEnd = lineLength;
            lineLength = 0;
            wordStart = 0;
            faultPlace = NONE;
            for (int k = 0; k < SLOTS; k++) {
                slots[k] = 0;
            }
            int speaker = readSpeaker();
            int forms = (1 << KINDS) - 1;
            for (int j = 0; j < FORM_ROOM && faultPlace == NONE; j++) {
                if (wordStart > lineEnd) {
                    return isEnded(forms, j, speaker);
                }
                forms = goingOn(forms, j, readWord());
                if (forms == 0) {
                    faultPlace = wordStart;
                }
                wordStart = wordEnd + 1;
            }
            return false;
        }

        private int readSpeaker() {
            long word = readWord();
            if (word != '0' && word != '1') {
                return NONE;
            }
            wordStart = wordEnd + 1;
            if (wordStart > lineEnd) {
                faultPlace = lineEnd;
            } else if (readWord() != SAYS) {
                faultPlace = wordStart;
            }
            wordStart = wordEnd + 1;
            return (int) word - '0';
        }

        /** The word from wordStart to the next blank; two blanks, or one at an end, have an empty word beside them. */
        private long readWord() {
            long word = 0;
            wordEnd = wordStart;
            for (int k = wordStart; k < lineEnd && line[k] != BLANK; k++) {
                word = word << 8 | line[k];
                wordEnd = k + 1;
            }
            int letters = wordEnd - wordStart;
            return letters >= 1 && letters <= WORD_ROOM ? word : NO_WORD;
        }

        /** Those of the forms, a bit for each kind, in which this word may be the j-th. */
        private int goingOn(int forms, int j, long word) {
            int left = forms;
            for (int kind = 0; kind < KINDS; kind++) {
                if ((forms >> kind & 1) == 0) {
                    continue;
                }
                long token = FORMS[FORM_ROOM * kind + j];
                int meant = meaning(token, word);
                if (meant == NONE) {
                    left &= ~(1 << kind);
                } else if (token >= X && token <= D) {
                    slots[(int) token] = meant;
                }
            }
            return left;
        }

        /** The thing or the number that a word means where this stands in a form; NONE if it may not stand there. */
        private int meaning(long token, long word) {
            if (token == END || word == NO_WORD) {
                return NONE;
            }
            if (token < D) {
                return thingNamed(word);
            }
            if (token == D) {
                return word >= '0' && word <= '9' ? (int) word - '0' : NONE;
            }
            return word == token ? 0 : NONE;
        }

        private boolean isEnded(int forms, int j, int speaker) {
            for (int kind = 0; kind < KINDS; kind++) {
                if ((forms >> kind & 1) != 0 && FORMS[FORM_ROOM * kind + j] == END) {
                    parsed = Code.of(kind, slots[(int) X], slots[(int) Y], slots[(int) Z], slots[(int) D], speaker);
                    return true;
                }
            }
            faultPlace = lineEnd;
            return false;
        }
    }
}
