/**
 * Runs of 512 calls with numbers from a fixed row, most of them ordinary, some wrong: each answer and each STATUS is
 * the one of PlainHouse.
 */
final class RandomRunsTest {
    private static final Due DUE = new Due();
    private static final int RUNS = 1200;
    private static final int CALLS = 512;
    /** Twenty TEXTS, their CHANGE and a STATUS. */
    private static final int MOST_AT_ONCE = 22;

    private final KnowHouse x = new KnowHouse();
    private final PlainHouse y = new PlainHouse();
    private final int run;
    private long seed;
    /** How many calls x has had. */
    private int made;
    private final int files;
    private final int texts;
    private final int longest;
    private final int slow;

    private RandomRunsTest(int run) {
        this.run = run;
        seed = run * 7919L + 17;
        files = 1 + run % 6;
        texts = 4 + run % 5 * 8;
        longest = run % 4 == 0 ? 20 : 6;
        slow = run % 3;
    }

    public static void main(String[] args) {
        for (int run = 0; run < RUNS; run++) {
            new RandomRunsTest(run).go();
        }
        DUE.end();
    }

    private int below(int n) {
        seed = seed * 6364136223846793005L + 1442695040888963407L;
        return (int) ((seed >>> 33) % n);
    }

    /** A number from 0 to n - 1, now and then one outside. */
    private int about(int n) {
        int kind = below(60);
        return kind == 0 ? -1 : kind == 1 ? n : kind == 2 ? -2 : kind == 3 ? n + 1 : below(n);
    }

    private int somebody() {
        return about(Math.max(1, y.people()));
    }

    private int file() {
        return below(40) == 0 ? about(6) : below(files);
    }

    private int someChange() {
        return about(Math.max(1, y.changes()));
    }

    private void due(String call, int a, int b, int got, int want) {
        made++;
        DUE.is("run " + run + ", call " + made + ": " + call + "(" + a + ", " + b + ", ..)", got, want);
    }

    private void go() {
        for (int p = 0; p < 2 + run % 5; p++) {
            int hours = below(3) == 0 ? below(8) : 99;
            due("person", hours, 0, x.person(hours), y.person(hours));
        }
        while (made < CALLS - MOST_AT_ONCE) {
            if (below(2) == 0) {
                act();
                due("status", 0, 0, x.status(), y.status);
            } else {
                ask();
            }
        }
    }

    private void act() {
        int which = below(100);
        if (which < 22) {
            change();
        } else if (which < 55) {
            read();
        } else if (which < 62) {
            int n = slow == 0 ? below(12) : below(4);
            n = below(40) == 0 ? -1 : below(60) == 0 ? 1001 : n;
            due("day", n, 0, x.day(n), y.day(n));
        } else if (which < 68) {
            int p = somebody();
            boolean is = below(3) != 0;
            due("here", p, is ? 1 : 0, x.here(p, is), y.here(p, is));
        } else if (which < 71) {
            int n = below(10) == 0 ? about(101) : 20 + below(80);
            due("share", n, 0, x.share(n), y.share(n));
        } else if (which < 77) {
            int c = someChange();
            int p = somebody();
            due("back", c, p, x.back(c, p), y.back(c, p));
        } else if (which < 79) {
            due("image", 0, 0, x.image(), y.image());
        } else if (which < 80) {
            due("restore", 0, 0, x.restore(), y.restore());
        } else {
            actRarely();
        }
    }

    private void actRarely() {
        int which = below(20);
        int a = about(4);
        if (which == 0) {
            int hours = about(100);
            due("person", hours, 0, x.person(hours), y.person(hours));
        } else if (which == 1) {
            due("wipe", 0, 0, x.wipe(), y.wipe());
        } else if (which < 6) {
            int sort = about(3);
            int n = below(3) == 0 ? about(41) : about(8);
            due("sheet", a, sort, x.sheet(a, sort, n), y.sheet(a, sort, n));
        } else if (which < 11) {
            int i = about(6);
            int v = below(4) == 0 ? below(20004) - 10002 : 10 + below(120);
            due("cell", a, i, x.cell(a, i, v), y.cell(a, i, v));
        } else if (which < 14) {
            int sort = about(3);
            due("come", a, sort, x.come(a, sort), y.come(a, sort));
        } else {
            int what = about(7);
            int n = below(20) == 0 ? below(205) - 102 : below(14) - 4;
            int k = below(20) == 0 ? below(205) - 102 : below(14) - 4;
            due("forge", what, n, x.forge(what, n, k), y.forge(what, n, k));
        }
    }

    private void change() {
        for (int many = below(longest + 1); many > 0; many--) {
            int text = below(100) == 0 ? about(10001) : 100 + below(texts);
            due("text", text, 0, x.text(text), y.text(text));
        }
        int kind = about(6);
        int f = file();
        int p = somebody();
        int other = somebody();
        due("change", kind, f, x.change(kind, f, p, other), y.change(kind, f, p, other));
    }

    private void read() {
        int p = somebody();
        int f = file();
        int size = Math.max(1, y.lines(f));
        int from = below(2) == 0 ? 0 : about(size);
        int to = below(2) == 0 ? size - 1 : about(size);
        due("read", p, f, x.read(p, f, from, to), y.read(p, f, from, to));
    }

    private void ask() {
        int p = somebody();
        int f = file();
        int i = about(Math.max(1, y.lines(f)));
        int what = about(8);
        switch (below(14)) {
            case 0:
                due("lines", f, 0, x.lines(f), y.lines(f));
                break;
            case 1:
                what = about(3);
                due("line", f, i, x.line(f, i, what), y.line(f, i, what));
                break;
            case 2:
                what = about(3);
                int k = about(4);
                due("mark", f, i, x.mark(f, i, k, what), y.mark(f, i, k, what));
                break;
            case 3:
                int c = someChange();
                due("changeTold", c, what, x.changeTold(c, what), y.changeTold(c, what));
                break;
            case 4:
                due("points", p, f, x.points(p, f, i), y.points(p, f, i));
                break;
            case 5:
                due("knows", p, f, x.knows(p, f), y.knows(p, f));
                break;
            case 6:
                due("able", p, f, x.able(p, f), y.able(p, f));
                break;
            case 7:
                int people = below(1 << Math.min(8, y.people() + below(2)));
                due("lost", people, 0, x.lost(people), y.lost(people));
                break;
            case 8:
                i = about(4);
                due("lone", i, 0, x.lone(i), y.lone(i));
                break;
            case 9:
                due("cover", 0, 0, x.cover(), y.cover());
                break;
            case 10:
                plans();
                break;
            case 11:
                f = below(3) == 0 ? -1 : f;
                due("sum", p, f, x.sum(p, f), y.sum(p, f));
                break;
            default:
                what = about(7);
                if (what != 7) {
                    due("count", what, 0, x.count(what), y.count(what));
                }
        }
    }

    private void plans() {
        int many = below(4) == 0 ? about(4) : 1;
        for (int what = -1; what < y.people(); what++) {
            due("plan", many, what, x.plan(many, what), y.plan(many, what));
        }
    }
}
