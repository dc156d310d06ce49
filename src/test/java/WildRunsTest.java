/** No call throws, whatever its numbers are: each promise's call with numbers at and far beyond all edges. */
final class WildRunsTest {
    private static final int[] EDGES = {
        Integer.MIN_VALUE, Integer.MIN_VALUE + 1, -10001, -101, -100, -61, -60, -7, -6, -5, -4, -3, -2, -1, 0, 0, 0, 1, 1,
        1, 2, 2, 3, 3, 4, 5, 6, 7, 8, 9, 10, 19, 20, 21, 39, 40, 41, 50, 59, 60, 61, 99, 100, 101, 255, 256, 1000, 1001,
        9999, 10000, 10001, 99999, 100000, 715827882, 715827883, 1 << 30, Integer.MAX_VALUE - 1, Integer.MAX_VALUE};

    private static long seed = 4711;
    private static KnowHouse x;
    private static int wrong;

    public static void main(String[] args) {
        for (int run = 0; run < 400; run++) {
            x = Made.with(run % 9, 50);
            for (int call = 0; call < 490; call++) {
                one();
            }
        }
        if (wrong != 0) {
            System.exit(1);
        }
    }

    private static int below(int n) {
        seed = seed * 6364136223846793005L + 1442695040888963407L;
        return (int) ((seed >>> 33) % n);
    }

    private static int some() {
        return below(3) == 0 ? EDGES[below(EDGES.length)] : below(4);
    }

    private static void one() {
        int call = below(40);
        int a = some();
        int b = some();
        int c = some();
        int d = some();
        try {
            make(call, a, b, c, d);
        } catch (RuntimeException | StackOverflowError thrown) {
            wrong++;
            System.out.println("call " + call + " of " + a + ", " + b + ", " + c + ", " + d + " threw " + thrown);
        }
    }

    private static int make(int call, int a, int b, int c, int d) {
        switch (call) {
            case 0:
                return x.person(a);
            case 1:
                return x.here(a, b != 0);
            case 2:
                return x.day(a);
            case 3:
                return x.share(a);
            case 4:
                return x.wipe();
            case 5:
                return x.back(a, b);
            case 6:
                return x.image();
            case 7:
                return x.restore();
            case 8:
                return x.lines(a);
            case 9:
                return x.line(a, b, c);
            case 10:
                return x.mark(a, b, c, d);
            case 11:
                return x.changeTold(a, b);
            case 12:
                return x.points(a, b, c);
            case 13:
                return x.knows(a, b);
            case 14:
                return x.able(a, b);
            case 15:
                return x.lost(a);
            case 16:
                return x.lone(a);
            case 17:
                return x.cover();
            case 18:
                return x.plan(a, b);
            case 19:
                return x.sum(a, b);
            case 20:
                return x.count(a);
            case 21:
                return x.act(a, b, c);
            case 22:
                return x.trace(a);
            case 23:
                return x.sheet(a, b, c);
            case 24:
                return x.cell(a, b, c);
            case 25:
                return x.come(a, b);
            case 26:
                return x.forge(a, b, c);
            case 27:
                return x.text(a);
            case 28:
            case 29:
            case 30:
                return x.change(a, b, c, d);
            case 31:
            case 32:
                return x.read(a, b, c, d);
            default:
                return x.text(100 + 5 * below(5));
        }
    }
}
