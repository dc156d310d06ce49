import java.util.ArrayList;
import java.util.List;

/** Promises 26 and 27: ACTS and THE TRACE, by hand and against classes that are under one another like the KINDS. */
final class ActsTest {
    private static final Due DUE = new Due();
    private static final List<Integer> BEGAN = new ArrayList<>();

    private static class Plain {
        int n;
        int h;
        int d;

        int write(int x) {
            BEGAN.add(10);
            return x + h;
        }

        int move(int x) {
            BEGAN.add(11);
            return write(x) * 2;
        }

        int know(int x) {
            BEGAN.add(12);
            return x - d;
        }

        int fade(int x) {
            BEGAN.add(13);
            return move(x) ^ know(x);
        }
    }

    private static class Formed extends Plain {
        @Override
        int write(int x) {
            BEGAN.add(20);
            return super.write(x) + n;
        }

        @Override
        int fade(int x) {
            BEGAN.add(21);
            return super.fade(x + 1);
        }
    }

    private static final class MadeOne extends Plain {
        @Override
        int know(int x) {
            BEGAN.add(30);
            return super.know(x) * 3;
        }
    }

    private static final class Paired extends Plain {
        @Override
        int move(int x) {
            BEGAN.add(40);
            return super.move(x) - write(x);
        }
    }

    private static final class Back extends Plain {
        @Override
        int fade(int x) {
            BEGAN.add(50);
            return know(x) - super.fade(x);
        }
    }

    private static final class Moved extends Formed {
        @Override
        int move(int x) {
            BEGAN.add(60);
            return super.move(x) + n;
        }

        @Override
        int write(int x) {
            BEGAN.add(61);
            return super.write(x - h);
        }
    }

    public static void main(String[] args) {
        byHand(made());
        refused(made());
        int[] values = {0, 1, -1, 5, 77, -1234567, Integer.MAX_VALUE, Integer.MIN_VALUE, 1 << 30, -(1 << 30) - 1};
        for (int k = 0; k < 12; k++) {
            for (int act = 0; act < 4; act++) {
                KnowHouse x = made();
                for (int value : values) {
                    same(x, k, act, value);
                }
            }
        }
        DUE.end();
    }

    /** Twelve CHANGES of all KINDS, by several HANDS, on several days. */
    private static KnowHouse made() {
        KnowHouse x = Made.with(5, 1);
        for (int k = 0; k < 12; k++) {
            x.day(3 * k + 1);
            int kind = (k + k / 6) % 6;
            int hand = (k + 2) % 4 + 1;
            if (kind == 4) {
                x.back(k - 1, hand);
            } else {
                x.change(kind, k % 6, hand, 0);
            }
        }
        return x;
    }

    private static void byHand(KnowHouse x) {
        DUE.is("26: changeTold(5, 0)", x.changeTold(5, 0), 5);
        DUE.is("26: changeTold(5, 2)", x.changeTold(5, 2), 4);
        DUE.done(x, "26: act(5, 3, 10)", x.act(5, 3, 10), 2 * (11 - 4 + 4 + 5) + 5 ^ 11 - 51);
        int[] began = {21, 13, 60, 11, 61, 20, 10, 12};
        DUE.is("27: count(7)", x.count(7), began.length);
        for (int i = 0; i < began.length; i++) {
            DUE.is("27: trace(" + i + ")", x.trace(i), began[i]);
        }
        DUE.is("27: trace(8)", x.trace(8), -1);
        DUE.is("27: trace(-1)", x.trace(-1), -1);
        DUE.is("27: trace(50)", x.trace(50), -1);
    }

    private static void refused(KnowHouse x) {
        x.act(0, 1, 4);
        DUE.refused(x, "26: act(12, 0, 0)", x.act(12, 0, 0), 1);
        DUE.refused(x, "26: act(-1, 0, 0)", x.act(-1, 0, 0), 1);
        DUE.refused(x, "26: act(0, 4, 0)", x.act(0, 4, 0), 1);
        DUE.refused(x, "26: act(0, -1, 0)", x.act(0, -1, 0), 1);
        DUE.is("27: THE TRACE is of the one that was done", x.count(7), 2);
        DUE.is("27: trace(0)", x.trace(0), 11);
        DUE.is("27: trace(1)", x.trace(1), 10);
    }

    private static void same(KnowHouse x, int k, int act, int value) {
        Plain c = ofKind(x.changeTold(k, 0));
        c.n = k;
        c.h = x.changeTold(k, 2);
        c.d = x.changeTold(k, 4);
        BEGAN.clear();
        int want = act == 0 ? c.write(value) : act == 1 ? c.move(value) : act == 2 ? c.know(value) : c.fade(value);
        String call = "26: act(" + k + ", " + act + ", " + value + ")";
        DUE.done(x, call, x.act(k, act, value), want);
        DUE.is(call + " count(7)", x.count(7), BEGAN.size());
        for (int i = 0; i <= BEGAN.size(); i++) {
            DUE.is(call + " trace(" + i + ")", x.trace(i), i < BEGAN.size() ? BEGAN.get(i) : -1);
        }
    }

    private static Plain ofKind(int kind) {
        switch (kind) {
            case 1:
                return new Formed();
            case 2:
                return new MadeOne();
            case 3:
                return new Paired();
            case 4:
                return new Back();
            case 5:
                return new Moved();
            default:
                return new Plain();
        }
    }
}
