import java.util.ArrayList;
import java.util.List;
import java.util.Map;
import java.util.TreeMap;
import java.util.TreeSet;

/** The document's Terms in their slowest and plainest form, to compare the class with. */
final class Oracle {
    /** A world: the place of each thing by its number, and what the speakers are. */
    record World(Map<Integer, Integer> at, boolean[] truth) {
    }

    /** kind, x, y, z, d, speaker. */
    final List<int[]> clues = new ArrayList<>();
    final int n;
    final int k;
    final List<Integer> things = new ArrayList<>();
    private final List<World> worlds = new ArrayList<>();
    Map<Integer, TreeSet<Integer>> grid = new TreeMap<>();

    Oracle(int n, int k) {
        this.n = n;
        this.k = k;
        for (int s = 1; s <= k; s++) {
            for (int i = 0; i < n; i++) {
                things.add(10 * s + i);
            }
        }
        spread(0, new TreeMap<>());
    }

    private void spread(int index, Map<Integer, Integer> at) {
        if (index == things.size()) {
            for (int speakers = 0; speakers < 4; speakers++) {
                worlds.add(new World(new TreeMap<>(at), new boolean[] {(speakers & 1) != 0, (speakers & 2) != 0}));
            }
            return;
        }
        int thing = things.get(index);
        for (int p = 0; p < n; p++) {
            boolean free = true;
            for (int other : at.keySet()) {
                free &= other / 10 != thing / 10 || at.get(other) != p;
            }
            if (free) {
                at.put(thing, p);
                spread(index + 1, at);
                at.remove(thing);
            }
        }
    }

    World world(int index) {
        return worlds.get(index % worlds.size());
    }

    boolean says(int[] c, Map<Integer, Integer> at) {
        int x = at.get(c[1]);
        int y = c[2] == 0 ? -9 : at.get(c[2]);
        int z = c[3] == 0 ? -9 : at.get(c[3]);
        int apart = Math.abs(x - y);
        switch (c[0]) {
            case 0: return x == y;
            case 1: return x != y;
            case 2: return x < y;
            case 3: return apart == 1;
            case 4: return apart == c[4];
            case 5: return x > y && x < z || x > z && x < y;
            case 6: return x == c[4];
            case 7: return x == y || x == z;
            case 8: return x == y ^ x == z;
            default: return of(c[4], x, at) < of(c[4], y, at);
        }
    }

    private int of(int sort, int place, Map<Integer, Integer> at) {
        for (int thing : things) {
            if (thing / 10 == sort && at.get(thing) == place) {
                return thing;
            }
        }
        throw new IllegalStateException();
    }

    List<World> answers(List<int[]> of) {
        List<World> found = new ArrayList<>();
        for (World world : worlds) {
            boolean all = true;
            for (int[] c : of) {
                boolean so = says(c, world.at);
                all = all && (c[5] == -1 ? so : so == world.truth[c[5]]);
                if (!all) {
                    break;
                }
            }
            if (all) {
                found.add(world);
            }
        }
        return found;
    }

    int answer(int x) {
        TreeSet<Integer> seen = new TreeSet<>();
        for (World world : answers(clues)) {
            seen.add(x < 2 ? (world.truth[x] ? 1 : 0) : world.at.get(x));
        }
        return seen.size() == 1 ? seen.first() : -1;
    }

    private boolean differ(List<int[]> of) {
        List<World> found = answers(of);
        for (World world : found) {
            if (!world.at.equals(found.get(0).at)) {
                return true;
            }
        }
        return false;
    }

    private static List<int[]> without(List<int[]> of, int k) {
        List<int[]> rest = new ArrayList<>(of);
        rest.remove(k);
        return rest;
    }

    boolean needed(int k) {
        return differ(without(clues, k));
    }

    /** The steps, each its rule, clue, thing and place; the grid is left as it ends. */
    List<int[]> proof(List<int[]> of) {
        grid = new TreeMap<>();
        for (int thing : things) {
            grid.put(thing, new TreeSet<>());
            for (int p = 0; p < n; p++) {
                grid.get(thing).add(p);
            }
        }
        List<int[]> steps = new ArrayList<>();
        for (int[] step = next(of); step != null; step = next(of)) {
            steps.add(step);
            grid.get(step[2]).remove(step[3]);
        }
        return steps;
    }

    private int[] next(List<int[]> of) {
        for (TreeSet<Integer> places : grid.values()) {
            if (places.isEmpty()) {
                return null;
            }
        }
        for (int rule = 1; rule <= 5; rule++) {
            boolean byClue = rule == 3 || rule == 5;
            for (int c = byClue ? 0 : -1; c < (byClue ? of.size() : 0); c++) {
                for (int thing : things) {
                    for (int place : grid.get(thing)) {
                        if (takes(rule, c == -1 ? null : of.get(c), thing, place)) {
                            return new int[] {rule, c, thing, place};
                        }
                    }
                }
            }
        }
        return null;
    }

    private List<Integer> others(int thing) {
        List<Integer> found = new ArrayList<>();
        for (int other : things) {
            if (other != thing && other / 10 == thing / 10) {
                found.add(other);
            }
        }
        return found;
    }

    private boolean takes(int rule, int[] c, int thing, int place) {
        switch (rule) {
            case 1:
                return others(thing).stream().anyMatch(o -> grid.get(o).size() == 1 && grid.get(o).first() == place);
            case 2:
                return grid.get(thing).stream().anyMatch(q -> q != place
                    && others(thing).stream().noneMatch(o -> grid.get(o).contains(q)));
            case 4:
                return others(thing).stream().anyMatch(a -> others(thing).stream().anyMatch(b -> !a.equals(b)
                    && grid.get(a).size() == 2 && grid.get(a).equals(grid.get(b)) && grid.get(a).contains(place)));
            default:
                return byClue(rule, c, thing, place);
        }
    }

    private boolean byClue(int rule, int[] c, int thing, int place) {
        boolean used = rule == 3 ? c[0] <= 4 || c[0] == 6 : c[0] == 5 || c[0] == 7 || c[0] == 8;
        if (!used || c[5] != -1 || c[1] != thing && c[2] != thing && c[3] != thing) {
            return false;
        }
        List<Integer> open = new ArrayList<>();
        for (int j = 1; j <= 3; j++) {
            if (c[j] != 0 && c[j] != thing) {
                open.add(c[j]);
            }
        }
        Map<Integer, Integer> at = new TreeMap<>();
        at.put(thing, place);
        return !someSo(c, open, at);
    }

    private boolean someSo(int[] c, List<Integer> open, Map<Integer, Integer> at) {
        if (open.isEmpty()) {
            return says(c, at);
        }
        int thing = open.get(0);
        for (int p : grid.get(thing)) {
            boolean free = at.keySet().stream().noneMatch(o -> o / 10 == thing / 10 && at.get(o) == p);
            Map<Integer, Integer> more = new TreeMap<>(at);
            more.put(thing, p);
            if (free && someSo(c, open.subList(1, open.size()), more)) {
                return true;
            }
        }
        return false;
    }

    int rating(List<int[]> of) {
        Map<Integer, TreeSet<Integer>> kept = grid;
        int greatest = 0;
        for (int[] step : proof(of)) {
            greatest = Math.max(greatest, step[0]);
        }
        boolean solved = grid.values().stream().allMatch(places -> places.size() == 1);
        grid = kept;
        return solved ? greatest : 0;
    }

    private long drawn;

    private int draw(int bound) {
        drawn = 48271L * drawn % 2147483647L;
        return (int) (drawn % bound);
    }

    int make(int seed, int rating) {
        drawn = seed;
        for (int time = 1; time <= 4; time++) {
            Map<Integer, Integer> at = drawnWorld();
            List<int[]> possible = possible(at);
            for (int k = possible.size() - 1; k >= 1; k--) {
                java.util.Collections.swap(possible, k, draw(k + 1));
            }
            List<int[]> riddle = new ArrayList<>(possible.subList(0, Math.min(24, possible.size())));
            if (!differ(riddle)) {
                for (int k = riddle.size() - 1; k >= 0; k--) {
                    if (!differ(without(riddle, k))) {
                        riddle.remove(k);
                    }
                }
            }
            if (rating(riddle) == rating) {
                clues.clear();
                clues.addAll(riddle);
                return time;
            }
        }
        return 0;
    }

    private Map<Integer, Integer> drawnWorld() {
        Map<Integer, Integer> at = new TreeMap<>();
        for (int thing : things) {
            at.put(thing, thing % 10);
        }
        for (int s = 1; s <= k; s++) {
            for (int i = n - 1; i >= 1; i--) {
                int j = draw(i + 1);
                int place = at.get(10 * s + i);
                at.put(10 * s + i, at.get(10 * s + j));
                at.put(10 * s + j, place);
            }
        }
        return at;
    }

    private List<int[]> possible(Map<Integer, Integer> at) {
        List<int[]> found = new ArrayList<>();
        for (int kind = 0; kind <= 6; kind++) {
            for (int x = 10; x < 40; x++) {
                for (int y = 0; y < 40; y++) {
                    for (int z = 0; z < 40; z++) {
                        for (int d = 0; d < n; d++) {
                            int[] c = {kind, x, y, z, d, -1};
                            if (isPossible(c) && says(c, at)) {
                                found.add(c);
                            }
                        }
                    }
                }
            }
        }
        return found;
    }

    private boolean isPossible(int[] c) {
        int kind = c[0];
        int x = c[1];
        int y = c[2];
        int z = c[3];
        if (!things.contains(x) || (kind == 6 ? y != 0 : !things.contains(y) || x == y)) {
            return false;
        }
        if (kind == 5 ? !things.contains(z) || z == x || y >= z : z != 0) {
            return false;
        }
        if ((kind == 0 || kind == 1 || kind == 3 || kind == 4) && x >= y || kind <= 1 && x / 10 == y / 10) {
            return false;
        }
        return kind == 4 ? c[4] >= 1 : kind == 6 || c[4] == 0;
    }
}
