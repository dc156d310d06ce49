/** Promises 26 and 27, sentence by sentence: ACTS and THE TRACE at their edges. */
final class EdgesActsTest {
    private static final int MIN = Integer.MIN_VALUE;
    private static final int MAX = Integer.MAX_VALUE;
    private static final int[] NUMBERS = {0, 1, -1, 7, -100, 1 << 30, -(1 << 30), MAX, MAX - 1, MIN, MIN + 1};
    /** The bodies of each KIND's write, move, know and fade, in the order in which they begin. */
    private static final int[][] TRACES = {
        {10}, {11, 10}, {12}, {13, 11, 10, 12},
        {20, 10}, {11, 20, 10}, {12}, {21, 13, 11, 20, 10, 12},
        {10}, {11, 10}, {30, 12}, {13, 11, 10, 30, 12},
        {10}, {40, 11, 10, 10}, {12}, {13, 40, 11, 10, 10, 12},
        {10}, {11, 10}, {12}, {50, 12, 13, 11, 10, 12},
        {61, 20, 10}, {60, 11, 61, 20, 10}, {12}, {21, 13, 60, 11, 61, 20, 10, 12}};
    private static final Due DUE = new Due();

    public static void main(String[] args) {
        actOfNoChange();
        noSuchAct();
        anyNumber();
        bodies();
        wrapping();
        numberHandDay();
        kindAbove();
        traceOfEach();
        traceOfLatestDone();
        traceOfRefused();
        noSuchBody();
        noTraceYet();
        DUE.end();
    }

    /** CHANGES 0 to 5 have KINDS 0 to 5; CHANGE n is by HAND n + 1 on DAY 10 * n + 3. */
    private static KnowHouse ofAllKinds() {
        KnowHouse x = Made.with(8, 0);
        x.day(3);
        for (int kind = 0; kind < 6; kind++) {
            if (kind == 4) {
                x.back(1, kind + 1);
            } else {
                x.change(kind, kind, kind + 1, 7);
            }
            x.day(10);
        }
        return x;
    }

    private static int due(int kind, int act, int x) {
        int n = kind;
        int h = kind + 1;
        int d = 10 * kind + 3;
        int write = kind == 1 ? x + h + n : kind == 5 ? x - h + h + n : x + h;
        int move = kind == 3 ? write * 2 - write : kind == 5 ? write * 2 + n : write * 2;
        int know = kind == 2 ? (x - d) * 3 : x - d;
        int fade = kind == 4 ? know - (move ^ know) : move ^ know;
        return act == 0 ? write : act == 1 ? move : act == 2 ? know : fade;
    }

    private static void act(KnowHouse x, int kind, int act, int number) {
        boolean goesOn = (kind == 1 || kind == 5) && act == 3;
        int due = due(kind, act, goesOn ? number + 1 : number);
        DUE.done(x, "act(" + kind + ", " + act + ", " + number + ")", x.act(kind, act, number), due);
    }

    private static void actOfNoChange() {
        DUE.sentence(26, "An ACT of a CHANGE with x: what it answers (any number). STATUS 1.");
        KnowHouse x = ofAllKinds();
        int[] none = {MIN, -60, -1, 6, 7, 59, 60, MAX};
        for (int change : none) {
            for (int act = 0; act < 4; act++) {
                DUE.refused(x, "act(" + change + ", " + act + ", 1)", x.act(change, act, 1), 1);
            }
        }
        DUE.done(x, "act(5, 2, 0)", x.act(5, 2, 0), -53);
        DUE.done(x, "act(0, 2, 0)", x.act(0, 2, 0), -3);
    }

    private static void noSuchAct() {
        DUE.sentence(26, "0 write, 1 move, 2 know, 3 fade");
        KnowHouse x = ofAllKinds();
        int[] none = {MIN, -4, -1, 4, 5, 20, MAX};
        for (int act : none) {
            for (int k = 0; k < 6; k++) {
                DUE.refused(x, "act(" + k + ", " + act + ", 1)", x.act(k, act, 1), 1);
            }
        }
        int[] of0 = {6, 12, 2, 12 ^ 2};
        for (int act = 0; act < 4; act++) {
            DUE.done(x, "act(0, " + act + ", 5)", x.act(0, act, 5), of0[act]);
        }
    }

    private static void anyNumber() {
        DUE.sentence(26, "what it answers (any number)");
        KnowHouse x = ofAllKinds();
        DUE.done(x, "act(0, 0, -2), it answers -1 and is done", x.act(0, 0, -2), -1);
        DUE.is("count(7)", x.count(7), 1);
        DUE.done(x, "act(0, 0, -1)", x.act(0, 0, -1), 0);
        DUE.done(x, "act(0, 0, MIN)", x.act(0, 0, MIN), MIN + 1);
        DUE.done(x, "act(0, 2, MAX)", x.act(0, 2, MAX), MAX - 3);
    }

    private static void bodies() {
        DUE.sentence(26, "BODIES, each with its number");
        for (int number : NUMBERS) {
            KnowHouse x = ofAllKinds();
            for (int kind = 0; kind < 6; kind++) {
                for (int act = 0; act < 4; act++) {
                    act(x, kind, act, number);
                }
            }
        }
    }

    private static void wrapping() {
        DUE.sentence(26, "with a number x (32 bits, wrapping)");
        KnowHouse x = ofAllKinds();
        DUE.done(x, "10: x + h", x.act(0, 0, MAX), MIN);
        DUE.done(x, "11: write(x) * 2", x.act(0, 1, (1 << 30) - 1), MIN);
        DUE.done(x, "11: write(x) * 2, all of it gone", x.act(0, 1, MAX), 0);
        DUE.done(x, "12: x - d", x.act(0, 2, MIN), MAX - 2);
        DUE.done(x, "13: move(x) ^ know(x)", x.act(0, 3, MAX), MAX - 3);
        DUE.done(x, "20: super.write(x) + n", x.act(1, 0, MAX - 2), MIN);
        DUE.done(x, "21: super.fade(x + 1)", x.act(1, 3, MAX), 6 ^ MAX - 12);
        DUE.done(x, "30: super.know(x) * 3", x.act(2, 2, (1 << 30) + 23), -1073741824);
        DUE.done(x, "40: super.move(x) - write(x)", x.act(3, 1, MAX), MIN + 3);
        DUE.done(x, "50: know(x) - super.fade(x)", x.act(4, 3, MIN), MAX - 42 - (10 ^ MAX - 42));
        DUE.done(x, "60: super.move(x) + n", x.act(5, 1, MAX), 13);
        DUE.done(x, "61: super.write(x - h)", x.act(5, 0, MIN), MIN + 5);
        DUE.done(x, "61 and 20: wrapping there and back", x.act(5, 0, MAX - 4), MIN);
    }

    private static void numberHandDay() {
        DUE.sentence(26, "n is its number, h its HAND, d its DAY");
        KnowHouse x = Made.with(8, 0);
        x.day(3);
        for (int k = 0; k < 58; k++) {
            x.change(0, 0, 0, 0);
        }
        x.change(3, 0, 5, 6);
        x.day(4);
        x.back(0, 2);
        x.day(1000);
        DUE.done(x, "the first HAND of a PAIRED one", x.act(58, 0, 100), 105);
        DUE.done(x, "the DAY of a PAIRED one", x.act(58, 2, 100), 97);
        DUE.done(x, "the HAND of a BACK, not of the CHANGE", x.act(59, 0, 100), 102);
        DUE.done(x, "the DAY of a BACK, not of the CHANGE", x.act(59, 2, 100), 93);
        KnowHouse y = Made.with(2, 0);
        for (int k = 0; k < 60; k++) {
            y.change(1, 0, 1, 0);
        }
        DUE.done(y, "the number of the first one", y.act(0, 0, 100), 101);
        DUE.done(y, "the number of the last one", y.act(59, 0, 100), 160);
    }

    private static void kindAbove() {
        DUE.sentence(26, "or, if that has none, of the next KIND above that has one");
        KnowHouse x = ofAllKinds();
        DUE.done(x, "MADE's write is CHANGE's", x.act(2, 0, 100), 103);
        DUE.done(x, "PAIRED's know is CHANGE's", x.act(3, 2, 100), 67);
        DUE.done(x, "BACK's move is CHANGE's", x.act(4, 1, 100), 210);
        DUE.done(x, "MOVED's know is CHANGE's, FORMED has none", x.act(5, 2, 100), 47);
        x.act(5, 3, 100);
        DUE.is("MOVED's fade is FORMED's", x.trace(0), 21);
        DUE.is("FORMED's super is CHANGE's", x.trace(1), 13);
        DUE.is("CHANGE's fade has MOVED's move", x.trace(2), 60);
        DUE.is("MOVED's super.move is CHANGE's, FORMED has none", x.trace(3), 11);
        DUE.is("CHANGE's move has MOVED's write", x.trace(4), 61);
        DUE.is("MOVED's super.write is FORMED's", x.trace(5), 20);
    }

    private static void traceOfEach() {
        DUE.sentence(27, "in the order in which they began (what stands further left is worked out first)");
        KnowHouse x = ofAllKinds();
        for (int kind = 0; kind < 6; kind++) {
            for (int act = 0; act < 4; act++) {
                int[] trace = TRACES[kind * 4 + act];
                act(x, kind, act, 9);
                DUE.is("count(7) of KIND " + kind + ", ACT " + act, x.count(7), trace.length);
                for (int i = 0; i < trace.length; i++) {
                    DUE.is("trace(" + i + ") of KIND " + kind + ", ACT " + act, x.trace(i), trace[i]);
                }
                DUE.is("trace(" + trace.length + ") of it", x.trace(trace.length), -1);
            }
        }
    }

    private static void traceOfLatestDone() {
        DUE.sentence(27, "the bodies that ran in the latest act() that was done");
        KnowHouse x = ofAllKinds();
        x.act(5, 3, 1);
        x.act(0, 1, 1);
        DUE.is("count(7)", x.count(7), 2);
        DUE.is("trace(0)", x.trace(0), 11);
        DUE.is("trace(2), nothing of the one before", x.trace(2), -1);
        x.change(0, 0, 0, 0);
        x.back(0, 0);
        x.day(1);
        x.forge(0, 0, 0);
        DUE.is("count(7) behind other calls", x.count(7), 2);
    }

    private static void traceOfRefused() {
        DUE.sentence(27, "in the latest act() that was done");
        KnowHouse x = ofAllKinds();
        x.act(2, 2, 1);
        DUE.refused(x, "act(6, 1, 1)", x.act(6, 1, 1), 1);
        DUE.refused(x, "act(-1, 1, 1)", x.act(-1, 1, 1), 1);
        DUE.refused(x, "act(0, 4, 1)", x.act(0, 4, 1), 1);
        DUE.refused(x, "act(0, -1, 1)", x.act(0, -1, 1), 1);
        DUE.is("count(7)", x.count(7), 2);
        DUE.is("trace(0)", x.trace(0), 30);
        DUE.is("trace(1)", x.trace(1), 12);
    }

    /** No ACT runs more than eight bodies, so that the fiftieth never comes. */
    private static void noSuchBody() {
        DUE.sentence(27, "THE TRACE's i-th body. -1: none such.");
        KnowHouse x = ofAllKinds();
        x.act(5, 3, 1);
        DUE.is("trace(0)", x.trace(0), 21);
        DUE.is("trace(7)", x.trace(7), 12);
        int[] none = {MIN, -50, -1, 8, 9, 49, 50, 51, MAX};
        for (int i : none) {
            DUE.is("trace(" + i + ")", x.trace(i), -1);
        }
    }

    private static void noTraceYet() {
        DUE.sentence(27, "-1: none such.");
        KnowHouse x = Made.with(1, 0);
        DUE.is("trace(0) of a new object", x.trace(0), -1);
        x.act(0, 0, 0);
        DUE.is("trace(0) behind a refused act()", x.trace(0), -1);
        x.change(0, 0, 0, 0);
        DUE.is("trace(0) behind a CHANGE", x.trace(0), -1);
        DUE.is("count(7)", x.count(7), 0);
    }
}
