import java.util.ArrayList;
import java.util.List;

/** Promise 8: which LINES a CHANGE KEEPS, by hand and against all ways to pair. */
final class KeptTest {
    private static final Due DUE = new Due();

    public static void main(String[] args) {
        leastOldLine();
        mostPairsFirst();
        byWording();
        moved();
        movedKeepsMarks();
        allWays();
        longRows();
        oneBehindAnother();
        DUE.end();
    }

    /** Reads LINE i so that it has i MARKS more: so the old number of a KEPT LINE can be told. */
    private static KnowHouse numbered(int... texts) {
        KnowHouse x = Made.with(2, 1);
        Made.change(x, 0, 0, 0, 0, texts);
        for (int from = 1; from < texts.length; from++) {
            x.read(1, 0, from, texts.length - 1);
        }
        return x;
    }

    private static void kept(String what, KnowHouse x, int kind, int[] texts, int[] old) {
        int number = Made.change(x, kind, 0, 1, 0, texts);
        int many = 0;
        for (int j = 0; j < texts.length; j++) {
            DUE.is(what + ": TEXT " + j, x.line(0, j, 0), texts[j]);
            DUE.is(what + ": MAKER " + j, x.line(0, j, 1), old[j] == -1 ? number : number - 1);
            DUE.is(what + ": LINE " + j, x.line(0, j, 2), old[j] == -1 ? 1 : 1 + old[j]);
            many += old[j] == -1 ? 0 : 1;
        }
        DUE.is(what + ": how many", x.changeTold(number, 5), many);
    }

    private static void leastOldLine() {
        kept("first of two", numbered(100, 100), 0, new int[] {100}, new int[] {0});
        kept("first new of two", numbered(100), 0, new int[] {100, 100}, new int[] {0, -1});
        kept("least old for the first new", numbered(100, 200, 100, 200), 0,
                new int[] {200, 100}, new int[] {1, 2});
        kept("either, the first new one wins", numbered(100, 200), 0, new int[] {200, 100}, new int[] {1, -1});
        kept("paired ahead of not paired", numbered(100, 200, 300), 0, new int[] {300, 100}, new int[] {2, -1});
    }

    private static void mostPairsFirst() {
        kept("more pairs ahead of the first", numbered(100, 200, 300), 0,
                new int[] {300, 100, 200}, new int[] {-1, 0, 1});
        kept("all", numbered(100, 200, 300), 0, new int[] {100, 200, 300}, new int[] {0, 1, 2});
        kept("none", numbered(100, 200), 0, new int[] {101, 201}, new int[] {-1, -1});
        kept("made ones by TEXT alone", numbered(100, 200), 2, new int[] {100, 201}, new int[] {0, -1});
        kept("of none", numbered(), 0, new int[] {100}, new int[] {-1});
    }

    private static void byWording() {
        kept("wording", numbered(100, 205), 1, new int[] {109, 200}, new int[] {0, 1});
        kept("another wording", numbered(100), 1, new int[] {110}, new int[] {-1});
        kept("wording, the least old one ahead of the whole TEXT", numbered(101, 100), 1,
                new int[] {100}, new int[] {0});
        kept("MOVED, wording", numbered(100), 5, new int[] {105}, new int[] {0});
    }

    private static void moved() {
        kept("FORMED doesn't move", numbered(100, 200), 1, new int[] {200, 100}, new int[] {1, -1});
        kept("MOVED", numbered(100, 200), 5, new int[] {200, 100}, new int[] {1, 0});
        kept("MOVED by whole TEXT", numbered(100, 200), 5, new int[] {200, 101}, new int[] {1, -1});
        kept("MOVED, the first old one that is left", numbered(300, 100, 200, 100), 5,
                new int[] {100, 200, 300, 100}, new int[] {1, 2, 0, 3});
        kept("MOVED, the first new one gets it", numbered(100, 200, 300), 5,
                new int[] {200, 300, 100, 100}, new int[] {1, 2, 0, -1});
        kept("MOVED, two old ones left", numbered(100, 100, 200, 300, 400), 5,
                new int[] {200, 300, 400, 100, 100}, new int[] {2, 3, 4, 0, 1});
        kept("MOVED, an old one KEPT by wording is not taken again", numbered(100, 200), 5,
                new int[] {101, 200, 100}, new int[] {0, 1, -1});
    }

    private static void movedKeepsMarks() {
        KnowHouse x = Made.with(2, 1);
        x.day(3);
        Made.change(x, 0, 0, 0, 0, 100, 200);
        x.day(9);
        Made.change(x, 5, 0, 1, 0, 203, 100);
        DUE.is("8: new TEXT", x.line(0, 0, 0), 203);
        DUE.is("8: mark(0, 0, 0, 1)", x.mark(0, 0, 0, 1), 3);
        DUE.is("8: mark(0, 1, 0, 0)", x.mark(0, 1, 0, 0), 0);
        DUE.is("8: mark(0, 1, 0, 1)", x.mark(0, 1, 0, 1), 3);
    }

    /** All short rows of few TEXTS, each against the best of all ways. */
    private static void allWays() {
        int seed = 12345;
        for (int run = 0; run < 4000; run++) {
            int[] old = new int[(seed >>> 8) % 7];
            seed = seed * 1103515245 + 12345;
            int[] texts = new int[(seed >>> 8) % 8];
            for (int i = 0; i < old.length; i++) {
                seed = seed * 1103515245 + 12345;
                old[i] = 100 + (seed >>> 8) % 3 * 10 + (seed >>> 16) % 2;
            }
            for (int j = 0; j < texts.length; j++) {
                seed = seed * 1103515245 + 12345;
                texts[j] = 100 + (seed >>> 8) % 3 * 10 + (seed >>> 16) % 2;
            }
            seed = seed * 1103515245 + 12345;
            int kind = new int[] {0, 1, 2, 5}[(seed >>> 8) % 4];
            seed &= Integer.MAX_VALUE;
            kept("run " + run + " of KIND " + kind, numbered(old), kind, texts, best(old, texts, kind));
        }
    }

    private static int[] best(int[] old, int[] texts, int kind) {
        List<int[]> ways = new ArrayList<>();
        collect(old, texts, kind == 1 || kind == 5, 0, 0, new int[texts.length], ways);
        int[] best = null;
        for (int[] way : ways) {
            if (best == null || isBetter(way, best)) {
                best = way;
            }
        }
        if (kind == 5) {
            move(old, texts, best);
        }
        return best;
    }

    private static void collect(int[] old, int[] texts, boolean wording, int i, int j, int[] way, List<int[]> ways) {
        if (j == texts.length) {
            ways.add(way.clone());
            return;
        }
        way[j] = -1;
        collect(old, texts, wording, i, j + 1, way, ways);
        for (int o = i; o < old.length; o++) {
            if (old[o] == texts[j] || wording && old[o] / 10 == texts[j] / 10) {
                way[j] = o;
                collect(old, texts, wording, o + 1, j + 1, way, ways);
            }
        }
    }

    private static boolean isBetter(int[] way, int[] other) {
        int more = pairs(way) - pairs(other);
        if (more != 0) {
            return more > 0;
        }
        for (int j = 0; j < way.length; j++) {
            if (way[j] != other[j]) {
                return other[j] == -1 || way[j] != -1 && way[j] < other[j];
            }
        }
        return false;
    }

    private static int pairs(int[] way) {
        int pairs = 0;
        for (int o : way) {
            pairs += o == -1 ? 0 : 1;
        }
        return pairs;
    }

    private static void move(int[] old, int[] texts, int[] way) {
        List<Integer> taken = new ArrayList<>();
        for (int o : way) {
            taken.add(o);
        }
        for (int j = 0; j < texts.length; j++) {
            for (int o = 0; o < old.length && way[j] == -1; o++) {
                if (old[o] == texts[j] && !taken.contains(o)) {
                    way[j] = o;
                    taken.add(o);
                }
            }
        }
    }

    private static void longRows() {
        KnowHouse x = Made.with(2, 1);
        Made.lines(x, 0, 0, 20);
        for (int i = 19; i >= 0; i--) {
            x.text(1000 + 10 * i);
        }
        DUE.is("8: change(0, ..) turned round", x.change(0, 0, 1, 0), 1);
        DUE.is("8: KEPT of it", x.changeTold(1, 5), 1);
        DUE.is("8: the first one is KEPT", x.line(0, 0, 1), 0);
        Made.lines(x, 0, 1, 20);
        for (int i = 19; i >= 0; i--) {
            x.text(1000 + 10 * i);
        }
        x.change(5, 0, 1, 0);
        DUE.is("8: KEPT by a MOVED one", x.changeTold(3, 5), 20);
    }

    /** What one CHANGE KEPT leaves nothing for the next one. */
    private static void oneBehindAnother() {
        KnowHouse x = Made.with(2, 1);
        int[] twenty = new int[20];
        java.util.Arrays.fill(twenty, 100);
        Made.change(x, 0, 0, 0, 0, twenty);
        Made.change(x, 0, 0, 0, 0, twenty);
        DUE.is("8: KEPT of twenty of one TEXT", x.changeTold(1, 5), 20);
        Made.change(x, 0, 1, 0, 0, 300, 400);
        Made.change(x, 5, 1, 0, 0, 500, 400, 300);
        DUE.is("8: KEPT in the small FILE", x.changeTold(3, 5), 2);
        int[] makers = {3, 2, 2};
        for (int i = 0; i < 3; i++) {
            DUE.is("8: MAKER of " + i, x.line(1, i, 1), makers[i]);
        }
        Made.change(x, 0, 1, 0, 0, 300, 500, 400);
        DUE.is("8: KEPT then", x.changeTold(4, 5), 2);
        DUE.is("8: not the first one", x.line(1, 0, 1), 4);
    }
}
