/**
 * THE PLAN, lost, lone and cover of objects in which many TASKS may be found, made with numbers from a fixed row: each
 * answer is the one of PlainHouse, which tries all plans and all sets.
 */
final class PlanRunsTest {
    private static final Due DUE = new Due();
    private static final int RUNS = 1500;
    private static final int[] SHARES = {20, 50, 50, 67, 100};
    private static final int[] KINDS = {0, 2, 2, 3};

    private final KnowHouse x = new KnowHouse();
    private final PlainHouse y = new PlainHouse();
    private final int run;
    private final int people;
    private long seed;
    /** Of PLANS with so many TASKS: how many there were in all runs. */
    private static final int[] FOUND = new int[9];

    private PlanRunsTest(int run) {
        this.run = run;
        seed = run * 104729L + 5;
        people = 1 + run % 7;
    }

    public static void main(String[] args) {
        for (int run = 0; run < RUNS; run++) {
            new PlanRunsTest(run).go();
        }
        for (int tasks = 0; tasks < 6; tasks++) {
            DUE.is("PLANS with " + tasks + " TASKS were found", FOUND[tasks] > 0 ? 1 : 0, 1);
        }
        DUE.end();
    }

    private int below(int n) {
        seed = seed * 6364136223846793005L + 1442695040888963407L;
        return (int) ((seed >>> 33) % n);
    }

    private void due(String call, int got, int want) {
        DUE.is("run " + run + ": " + call, got, want);
    }

    private void go() {
        int most = below(3) == 0 ? 99 : 8;
        for (int p = 0; p < people; p++) {
            int hours = below(2) == 0 ? 99 : below(most + 1);
            due("person", x.person(hours), y.person(hours));
        }
        int share = SHARES[below(SHARES.length)];
        due("share", x.share(share), y.share(share));
        for (int f = 0; f < 6; f++) {
            if (below(2) == 0) {
                write(f);
            }
        }
        for (int many = below(45); many > 0; many--) {
            read(below(6));
        }
        ask();
    }

    private void write(int f) {
        for (int left = 1 + below(5); left > 0; left--) {
            due("text", x.text(100 * left), y.text(100 * left));
        }
        int kind = KINDS[below(KINDS.length)];
        int p = below(people);
        int other = below(people);
        due("change", x.change(kind, f, p, other), y.change(kind, f, p, other));
    }

    private void read(int f) {
        int p = below(people);
        int size = Math.max(1, y.lines(f));
        int from = below(2) == 0 ? 0 : below(size);
        int to = below(2) == 0 ? size - 1 : from + below(size - from);
        due("read", x.read(p, f, from, to), y.read(p, f, from, to));
        if (below(20) == 0) {
            int n = below(11);
            due("day", x.day(n), y.day(n));
        }
        if (below(20) == 0) {
            boolean is = below(3) != 0;
            due("here", x.here(p, is), y.here(p, is));
        }
    }

    private void ask() {
        for (int many = 1; many <= 3; many++) {
            int tasks = 0;
            for (int what = -1; what < people; what++) {
                int planned = x.plan(many, what);
                due("plan(" + many + ", " + what + ")", planned, y.plan(many, what));
                tasks += what >= 0 && planned >= 0 ? 1 : 0;
            }
            FOUND[tasks] += x.plan(many, -1) == -2 ? 0 : 1;
        }
        for (int i = -1; i <= 6; i++) {
            due("lone(" + i + ")", x.lone(i), y.lone(i));
        }
        due("cover()", x.cover(), y.cover());
        due("count(6)", x.count(6), y.count(6));
        for (int set = 0; set <= 1 << people; set++) {
            due("lost(" + set + ")", x.lost(set), y.lost(set));
        }
    }
}
