/** Promises 28 to 31, sentence by sentence: sheet, cell, come and forge at their edges. */
final class EdgesSheetsTest {
    private static final int[] FAR = {Integer.MIN_VALUE, Integer.MIN_VALUE + 1, -20000, 20000, Integer.MAX_VALUE};
    private static final Due DUE = new Due();

    public static void main(String[] args) {
        sheets();
        cells();
        comes();
        forges();
        DUE.end();
    }

    private static void sheets() {
        noSuchSheet();
        noSuchSort();
        sizes();
        sizeOfMissing();
        allZero();
        missingFromNowOn();
        sheetsApart();
    }

    private static void cells() {
        cellOfNoSheet();
        cellValues();
        cellOfMissing();
        cellOutside();
        cellLowest();
        cellOfBytes();
        cellOfShortsAndInts();
    }

    private static void comes() {
        comeOfNoSheet();
        comeOfMissing();
        comeOfOtherSort();
        comeOfTooMany();
        comeOfNoText();
        comeInThisOrder();
        comeInPlaceOfTape();
        comeOfNone();
        comeLeavesSheet();
    }

    private static void forges() {
        forgeOfAnother();
        forgeOutside();
        forgeKind();
        forgeKindModulo();
        forgeNoChange();
        forgeRow();
        forgeNumber();
        forgeNumberOfOthers();
        forgeNumberModulo();
        forgeCopy();
        forgeCopyOfOthers();
        forgeCopyOfNone();
        forgePut();
        forgePutNothing();
        forgeQuotient();
        forgeByZero();
        forgeFailure();
        forgeDoesNotMatter();
    }

    private static KnowHouse sheet(int sheet, int sort, int... numbers) {
        KnowHouse x = Made.with(2, 0);
        x.sheet(sheet, sort, numbers.length);
        for (int i = 0; i < numbers.length; i++) {
            DUE.done(x, "cell(" + sheet + ", " + i + ", " + numbers[i] + ")", x.cell(sheet, i, numbers[i]), 1);
        }
        return x;
    }

    private static void noSuchSheet() {
        DUE.sentence(28, "SHEETS 0 .. 3 are rows of numbers");
        KnowHouse x = new KnowHouse();
        int[] none = {-1, 4, Integer.MIN_VALUE, Integer.MAX_VALUE};
        for (int sheet : none) {
            DUE.refused(x, "sheet(" + sheet + ", 0, 0)", x.sheet(sheet, 0, 0), 1);
            DUE.refused(x, "sheet(" + sheet + ", -1, 0)", x.sheet(sheet, -1, 0), 1);
        }
        for (int sheet = 0; sheet < 4; sheet++) {
            DUE.done(x, "sheet(" + sheet + ", 1, 1)", x.sheet(sheet, 1, 1), 1);
            DUE.done(x, "its number 0", x.forge(2, 0, sheet), 0);
        }
    }

    private static void noSuchSort() {
        DUE.sentence(28, "A SHEET of a sort (0 .. 2)");
        KnowHouse x = new KnowHouse();
        DUE.refused(x, "sheet(0, -2, 1)", x.sheet(0, -2, 1), 1);
        DUE.refused(x, "sheet(0, 3, 1)", x.sheet(0, 3, 1), 1);
        for (int far : FAR) {
            DUE.refused(x, "sheet(0, " + far + ", 1)", x.sheet(0, far, 1), 1);
        }
        DUE.refused(x, "missing still", x.cell(0, 0, 0), 10);
        for (int sort = 0; sort < 3; sort++) {
            DUE.done(x, "sheet(0, " + sort + ", 0)", x.sheet(0, sort, 0), 1);
            for (int other = 0; other < 3; other++) {
                int came = x.come(0, other);
                DUE.is("come(0, " + other + ") of sort " + sort, came, other == sort ? 0 : -1);
                DUE.is("status()", x.status(), other == sort ? 0 : 11);
            }
        }
    }

    private static void sizes() {
        DUE.sentence(28, "with n (0 .. 40) numbers, all 0");
        for (int sort = 0; sort < 3; sort++) {
            KnowHouse x = new KnowHouse();
            DUE.refused(x, "sheet(2, " + sort + ", -1)", x.sheet(2, sort, -1), 1);
            DUE.refused(x, "sheet(2, " + sort + ", 41)", x.sheet(2, sort, 41), 1);
            for (int far : FAR) {
                DUE.refused(x, "sheet(2, " + sort + ", " + far + ")", x.sheet(2, sort, far), 1);
            }
            DUE.refused(x, "missing still", x.cell(2, 0, 0), 10);
            DUE.done(x, "sheet(2, " + sort + ", 40)", x.sheet(2, sort, 40), 1);
            DUE.done(x, "cell(2, 39, 1)", x.cell(2, 39, 1), 1);
            DUE.refused(x, "cell(2, 40, 1)", x.cell(2, 40, 1), 12);
            DUE.refused(x, "sheet(2, " + sort + ", 41) of one that is there", x.sheet(2, sort, 41), 1);
            DUE.done(x, "cell(2, 39, 1), it stays", x.cell(2, 39, 1), 1);
            DUE.done(x, "sheet(2, " + sort + ", 0)", x.sheet(2, sort, 0), 1);
            DUE.refused(x, "cell(2, 0, 1)", x.cell(2, 0, 1), 12);
        }
    }

    private static void sizeOfMissing() {
        DUE.sentence(28, "sort -1: it is missing from now on (n does not matter)");
        int[] sizes = {Integer.MIN_VALUE, -1, 0, 40, 41, Integer.MAX_VALUE};
        for (int n : sizes) {
            KnowHouse x = sheet(1, 1, 5);
            DUE.done(x, "sheet(1, -1, " + n + ")", x.sheet(1, -1, n), 1);
            DUE.refused(x, "cell(1, 0, 0)", x.cell(1, 0, 0), 10);
            DUE.done(x, "sheet(1, -1, " + n + ") of a missing one", x.sheet(1, -1, n), 1);
        }
    }

    private static void allZero() {
        DUE.sentence(28, "with n (0 .. 40) numbers, all 0");
        KnowHouse x = new KnowHouse();
        x.sheet(0, 1, 40);
        for (int i = 0; i < 40; i++) {
            DUE.done(x, "forge(2, " + i + ", 0)", x.forge(2, i, 0), 0);
            x.cell(0, i, 100 + i);
        }
        x.sheet(0, 1, 3);
        x.sheet(0, 1, 40);
        for (int i = 0; i < 40; i++) {
            DUE.done(x, "forge(2, " + i + ", 0) anew", x.forge(2, i, 0), 0);
        }
        x.cell(0, 5, 7);
        x.sheet(0, -1, 0);
        x.sheet(0, 1, 40);
        DUE.done(x, "forge(2, 5, 0) behind a missing one", x.forge(2, 5, 0), 0);
    }

    private static void missingFromNowOn() {
        DUE.sentence(28, "it is missing from now on");
        for (int sort = 0; sort < 3; sort++) {
            KnowHouse x = sheet(3, sort, 50, 60);
            x.sheet(3, -1, 2);
            DUE.refused(x, "come(3, " + sort + ")", x.come(3, sort), 10);
            DUE.refused(x, "forge(2, 0, 3)", x.forge(2, 0, 3), 10);
            DUE.refused(x, "forge(3, 0, 3)", x.forge(3, 0, 3), 10);
            x.sheet(3, sort, 1);
            DUE.done(x, "cell(3, 0, 1), there again", x.cell(3, 0, 1), 1);
        }
    }

    private static void sheetsApart() {
        DUE.sentence(28, "SHEETS 0 .. 3 are rows of numbers");
        KnowHouse x = new KnowHouse();
        for (int s = 0; s < 4; s++) {
            x.sheet(s, 1, s + 1);
            x.cell(s, 0, 10 + s);
        }
        for (int s = 0; s < 4; s++) {
            DUE.done(x, "forge(2, 0, " + s + ")", x.forge(2, 0, s), 10 + s);
            DUE.refused(x, "forge(2, " + (s + 1) + ", " + s + ")", x.forge(2, s + 1, s), 12);
        }
    }

    private static void cellOfNoSheet() {
        DUE.sentence(29, "Number i of a SHEET becomes v");
        KnowHouse x = new KnowHouse();
        for (int s = 0; s < 4; s++) {
            x.sheet(s, 2, 1);
        }
        DUE.refused(x, "cell(-1, 0, 0)", x.cell(-1, 0, 0), 1);
        DUE.refused(x, "cell(4, 0, 0)", x.cell(4, 0, 0), 1);
        for (int far : FAR) {
            DUE.refused(x, "cell(" + far + ", 0, 0)", x.cell(far, 0, 0), 1);
        }
    }

    private static void cellValues() {
        DUE.sentence(29, "(-10000 .. 10000;");
        for (int sort = 0; sort < 3; sort++) {
            KnowHouse x = sheet(0, sort, 0);
            DUE.refused(x, "cell(0, 0, -10001)", x.cell(0, 0, -10001), 1);
            DUE.refused(x, "cell(0, 0, 10001)", x.cell(0, 0, 10001), 1);
            for (int far : FAR) {
                DUE.refused(x, "cell(0, 0, " + far + ")", x.cell(0, 0, far), 1);
            }
            DUE.done(x, "cell(0, 0, -10000)", x.cell(0, 0, -10000), 1);
            DUE.done(x, "cell(0, 0, 10000)", x.cell(0, 0, 10000), 1);
        }
        KnowHouse y = sheet(0, 1, 10000, -10000);
        DUE.refused(y, "cell(0, 0, 10001)", y.cell(0, 0, 10001), 1);
        DUE.done(y, "number 0", y.forge(2, 0, 0), 10000);
        DUE.done(y, "number 1", y.forge(2, 1, 0), -10000);
    }

    private static void cellOfMissing() {
        DUE.sentence(29, "10 nothing where something is asked");
        KnowHouse x = new KnowHouse();
        for (int s = 0; s < 4; s++) {
            DUE.refused(x, "cell(" + s + ", 0, 5)", x.cell(s, 0, 5), 10);
            DUE.refused(x, "cell(" + s + ", 50, 5)", x.cell(s, 50, 5), 10);
            DUE.refused(x, "cell(" + s + ", -1, 5)", x.cell(s, -1, 5), 10);
        }
    }

    private static void cellOutside() {
        DUE.sentence(29, "12 a place outside");
        for (int sort = 0; sort < 3; sort++) {
            KnowHouse x = sheet(0, sort, 20, 30);
            DUE.refused(x, "cell(0, -1, 5)", x.cell(0, -1, 5), 12);
            DUE.refused(x, "cell(0, 2, 5)", x.cell(0, 2, 5), 12);
            DUE.refused(x, "cell(0, 39, 5)", x.cell(0, 39, 5), 12);
            DUE.refused(x, "cell(0, 40, 5)", x.cell(0, 40, 5), 12);
            for (int far : FAR) {
                DUE.refused(x, "cell(0, " + far + ", 5)", x.cell(0, far, 5), 12);
            }
            DUE.done(x, "cell(0, 1, 31)", x.cell(0, 1, 31), 1);
            DUE.done(x, "come(0, " + sort + ")", x.come(0, sort), 2);
            x.change(0, 0, 0, 0);
            DUE.is("line(0, 0, 0)", x.line(0, 0, 0), 20);
            DUE.is("line(0, 1, 0)", x.line(0, 1, 0), 31);
        }
    }

    private static void cellLowest() {
        DUE.sentence(29, "Where several hold, the lowest.");
        KnowHouse x = sheet(0, 0, 0);
        DUE.refused(x, "no such number, missing", x.cell(1, 0, 10001), 1);
        DUE.refused(x, "no such number, a place outside", x.cell(0, 1, -10001), 1);
        DUE.refused(x, "no such SHEET, a place outside", x.cell(4, 99, 0), 1);
        DUE.refused(x, "missing, a place outside", x.cell(1, 99, 0), 10);
    }

    private static void cellOfBytes() {
        DUE.sentence(29, "of sort 0 cut to its lowest 8 bits, with sign)");
        int[] put = {0, 1, -1, 127, 128, 129, 255, 256, 257, -127, -128, -129, -256, 10000, -10000, 384, -384};
        int[] held = {0, 1, -1, 127, -128, -127, -1, 0, 1, -127, -128, 127, 0, 16, -16, -128, -128};
        for (int i = 0; i < put.length; i++) {
            KnowHouse x = sheet(2, 0, 99, put[i]);
            DUE.done(x, put[i] + " in a byte", x.forge(3, 1, 2), held[i]);
        }
        KnowHouse y = sheet(2, 0, 266, 9999);
        DUE.done(y, "come(2, 0)", y.come(2, 0), 2);
        y.change(0, 0, 0, 0);
        DUE.is("266 is 10", y.line(0, 0, 0), 10);
        DUE.is("9999 is 15", y.line(0, 1, 0), 15);
        KnowHouse z = sheet(2, 0, 128);
        DUE.refused(z, "128 is no TEXT", z.come(2, 0), 3);
    }

    private static void cellOfShortsAndInts() {
        DUE.sentence(29, "of sort 0 cut to its lowest 8 bits");
        for (int sort = 1; sort < 3; sort++) {
            KnowHouse x = sheet(1, sort, 128, 256, 9999);
            DUE.done(x, "come(1, " + sort + ")", x.come(1, sort), 3);
            x.change(0, 0, 0, 0);
            DUE.is("line(0, 0, 0)", x.line(0, 0, 0), 128);
            DUE.is("line(0, 1, 0)", x.line(0, 1, 0), 256);
            DUE.is("line(0, 2, 0)", x.line(0, 2, 0), 9999);
        }
    }

    private static void comeOfNoSheet() {
        DUE.sentence(30, "STATUS 1 (no such, sort)");
        KnowHouse x = sheet(0, 2, 10);
        DUE.refused(x, "come(-1, 2)", x.come(-1, 2), 1);
        DUE.refused(x, "come(4, 2)", x.come(4, 2), 1);
        DUE.refused(x, "come(0, -1)", x.come(0, -1), 1);
        DUE.refused(x, "come(0, 3)", x.come(0, 3), 1);
        DUE.refused(x, "come(1, -1) of a missing one", x.come(1, -1), 1);
        for (int far : FAR) {
            DUE.refused(x, "come(" + far + ", 2)", x.come(far, 2), 1);
            DUE.refused(x, "come(0, " + far + ")", x.come(0, far), 1);
        }
        DUE.is("count(4)", x.count(4), 0);
    }

    private static void comeOfMissing() {
        DUE.sentence(30, "10 nothing where something is asked");
        KnowHouse x = new KnowHouse();
        x.text(50);
        for (int s = 0; s < 4; s++) {
            for (int sort = 0; sort < 3; sort++) {
                DUE.refused(x, "come(" + s + ", " + sort + ")", x.come(s, sort), 10);
            }
        }
        DUE.is("count(4)", x.count(4), 1);
    }

    private static void comeOfOtherSort() {
        DUE.sentence(30, "those of a SHEET that is taken for one of a sort");
        for (int sort = 0; sort < 3; sort++) {
            KnowHouse x = sheet(3, sort, 20, 30);
            for (int taken = 0; taken < 3; taken++) {
                if (taken == sort) {
                    DUE.done(x, "come(3, " + taken + ") of sort " + sort, x.come(3, taken), 2);
                } else {
                    DUE.refused(x, "come(3, " + taken + ") of sort " + sort, x.come(3, taken), 11);
                }
            }
        }
    }

    private static KnowHouse texts(int sort, int many) {
        int[] numbers = new int[many];
        java.util.Arrays.fill(numbers, 50);
        return sheet(0, sort, numbers);
    }

    private static void comeOfTooMany() {
        DUE.sentence(30, "2 (more than 20)");
        for (int sort = 0; sort < 3; sort++) {
            KnowHouse x = texts(sort, 20);
            x.text(10);
            DUE.done(x, "come of 20", x.come(0, sort), 20);
            DUE.refused(x, "text(10) behind them", x.text(10), 2);
            KnowHouse y = texts(sort, 21);
            y.text(10);
            DUE.refused(y, "come of 21", y.come(0, sort), 2);
            DUE.is("count(4)", y.count(4), 1);
            KnowHouse z = texts(sort, 40);
            DUE.refused(z, "come of 40", z.come(0, sort), 2);
        }
    }

    private static void comeOfNoText() {
        DUE.sentence(30, "3 (one is no TEXT)");
        int[] none = {9, 0, -1, -10, 10000, -10000};
        for (int number : none) {
            for (int at = 0; at < 3; at++) {
                KnowHouse x = sheet(0, 2, 10, 500, 9999);
                x.text(77);
                x.cell(0, at, number);
                DUE.refused(x, "come with " + number + " at " + at, x.come(0, 2), 3);
                DUE.is("count(4)", x.count(4), 1);
                x.change(0, 0, 0, 0);
                DUE.is("line(0, 0, 0)", x.line(0, 0, 0), 77);
            }
        }
        DUE.done(sheet(0, 2, 10, 9999), "come of the least and the most", sheet(0, 2, 10, 9999).come(0, 2), 2);
    }

    private static void comeInThisOrder() {
        DUE.sentence(30, "these in this order");
        KnowHouse x = new KnowHouse();
        x.sheet(0, 1, 21);
        DUE.refused(x, "no such sort, more than 20, no TEXTS", x.come(0, 3), 1);
        DUE.refused(x, "no such sort, missing", x.come(1, 3), 1);
        DUE.refused(x, "another sort ahead of more than 20", x.come(0, 2), 11);
        DUE.refused(x, "more than 20 ahead of no TEXTS", x.come(0, 1), 2);
        x.sheet(0, 1, 20);
        DUE.refused(x, "another sort ahead of no TEXTS", x.come(0, 0), 11);
        DUE.refused(x, "no TEXTS", x.come(0, 1), 3);
    }

    private static void comeInPlaceOfTape() {
        DUE.sentence(30, "THE TAPE's numbers become those of a SHEET");
        KnowHouse x = sheet(0, 1, 20, 30);
        for (int i = 0; i < 20; i++) {
            x.text(77);
        }
        DUE.done(x, "come(0, 1)", x.come(0, 1), 2);
        DUE.is("count(4)", x.count(4), 2);
        DUE.done(x, "text(40) behind them", x.text(40), 3);
        x.change(0, 0, 0, 0);
        for (int i = 0; i < 3; i++) {
            DUE.is("line(0, " + i + ", 0)", x.line(0, i, 0), 20 + 10 * i);
        }
        DUE.is("lines(0)", x.lines(0), 3);
    }

    private static void comeOfNone() {
        DUE.sentence(30, "how many.");
        for (int sort = 0; sort < 3; sort++) {
            KnowHouse x = sheet(0, sort);
            x.text(77);
            DUE.done(x, "come of no numbers", x.come(0, sort), 0);
            DUE.is("count(4)", x.count(4), 0);
            DUE.done(x, "wipe()", x.wipe(), 0);
        }
    }

    private static void comeLeavesSheet() {
        DUE.sentence(30, "THE TAPE's numbers become those of a SHEET");
        KnowHouse x = sheet(0, 1, 20, 30);
        x.come(0, 1);
        x.wipe();
        x.text(99);
        DUE.done(x, "number 0 stays", x.forge(2, 0, 0), 20);
        x.come(0, 1);
        x.cell(0, 0, 88);
        x.change(0, 0, 0, 0);
        DUE.is("what came before stays", x.line(0, 0, 0), 20);
    }

    private static void forgeOfAnother() {
        DUE.sentence(31, "(STATUS 1: another;");
        KnowHouse x = new KnowHouse();
        int[] none = {Integer.MIN_VALUE, -1, 7, 8, Integer.MAX_VALUE};
        for (int what : none) {
            DUE.refused(x, "forge(" + what + ", 1, 0)", x.forge(what, 1, 0), 1);
        }
    }

    private static void forgeOutside() {
        DUE.sentence(31, "n or k outside -100 .. 100)");
        for (int what = 0; what < 7; what++) {
            KnowHouse x = Made.with(1, 0);
            int[] outside = {Integer.MIN_VALUE, -101, 101, Integer.MAX_VALUE};
            for (int number : outside) {
                DUE.refused(x, "forge(" + what + ", " + number + ", 0)", x.forge(what, number, 0), 1);
                DUE.refused(x, "forge(" + what + ", 1, " + number + ")", x.forge(what, 1, number), 1);
                DUE.refused(x, "forge(" + what + ", 0, " + number + ")", x.forge(what, 0, number), 1);
            }
        }
        KnowHouse y = new KnowHouse();
        DUE.done(y, "forge(5, 100, 100)", y.forge(5, 100, 100), 10);
        DUE.done(y, "forge(5, -100, -100)", y.forge(5, -100, -100), -10);
        DUE.done(y, "forge(1, 100, -100)", y.forge(1, 100, -100), 100);
        DUE.refused(y, "forge(1, -100, 100)", y.forge(1, -100, 100), 13);
    }

    /** CHANGES 0 to 5 of KINDS 0 to 5. */
    private static KnowHouse ofAllKinds() {
        KnowHouse x = Made.with(2, 0);
        for (int kind = 0; kind < 6; kind++) {
            int number = kind == 4 ? x.back(0, 0) : x.change(kind, 0, 0, 1);
            DUE.is("CHANGE " + kind, number, kind);
        }
        return x;
    }

    private static void forgeKind() {
        DUE.sentence(31, "is taken for one whose KIND is n modulo 6 (also for numbers below 0) or one under that one");
        String[] under = {"0", "01", "02", "03", "04", "015"};
        for (int n = -12; n < 12; n++) {
            KnowHouse x = ofAllKinds();
            int top = (n + 12) % 6;
            for (int k = 0; k < 6; k++) {
                String call = "forge(0, " + n + ", " + k + ")";
                if (under[k].indexOf('0' + top) >= 0) {
                    DUE.done(x, call, x.forge(0, n, k), k);
                } else {
                    DUE.refused(x, call, x.forge(0, n, k), 11);
                }
            }
        }
    }

    private static void forgeKindModulo() {
        DUE.sentence(31, "0 CHANGE k modulo 60");
        KnowHouse x = Made.with(2, 0);
        int[] kinds = {0, 1, 2, 3, 5};
        for (int k = 0; k < 60; k++) {
            x.change(kinds[k % 5], 0, 0, 1);
        }
        for (int k = -100; k <= 100; k++) {
            DUE.done(x, "forge(0, 0, " + k + ")", x.forge(0, 0, k), kinds[(k + 120) % 60 % 5]);
        }
        DUE.done(x, "forge(0, 97, 61)", x.forge(0, 97, 61), 1);
        DUE.done(x, "forge(0, -95, 64)", x.forge(0, -95, 64), 5);
        DUE.refused(x, "forge(0, 100, 61)", x.forge(0, 100, 61), 11);
    }

    private static void forgeNoChange() {
        DUE.sentence(31, "10 (there is no such CHANGE), 11; answers its KIND");
        KnowHouse x = ofAllKinds();
        int[] none = {6, 59, -1, -54, 66, 100, -100};
        for (int k : none) {
            for (int n = 0; n < 6; n++) {
                DUE.refused(x, "forge(0, " + n + ", " + k + ")", x.forge(0, n, k), 10);
            }
        }
        DUE.done(x, "forge(0, 0, -55)", x.forge(0, 0, -55), 5);
        DUE.done(x, "forge(0, 0, 65)", x.forge(0, 0, 65), 5);
    }

    private static void forgeRow() {
        DUE.sentence(31, "1 a row of n numbers is made: 13; answers n.");
        KnowHouse x = new KnowHouse();
        DUE.done(x, "forge(1, 0, 0)", x.forge(1, 0, 0), 0);
        DUE.done(x, "forge(1, 1, 0)", x.forge(1, 1, 0), 1);
        DUE.done(x, "forge(1, 100, 0)", x.forge(1, 100, 0), 100);
        DUE.refused(x, "forge(1, -1, 0)", x.forge(1, -1, 0), 13);
        DUE.refused(x, "forge(1, -100, 0)", x.forge(1, -100, 0), 13);
    }

    private static void forgeNumber() {
        DUE.sentence(31, "its number n: 10, 12; answers it.");
        int[] forty = new int[40];
        forty[0] = 11;
        forty[39] = -10000;
        KnowHouse x = sheet(0, 1, forty);
        DUE.done(x, "forge(2, 0, 0)", x.forge(2, 0, 0), 11);
        DUE.done(x, "forge(2, 39, 0)", x.forge(2, 39, 0), -10000);
        int[] outside = {-100, -1, 40, 41, 100};
        for (int n : outside) {
            DUE.refused(x, "forge(2, " + n + ", 0)", x.forge(2, n, 0), 12);
        }
        KnowHouse y = sheet(0, 1);
        DUE.refused(y, "forge(2, 0, 0) of no numbers", y.forge(2, 0, 0), 12);
        KnowHouse z = sheet(0, 1, -1);
        DUE.done(z, "forge(2, 0, 0), it answers -1 and is done", z.forge(2, 0, 0), -1);
    }

    private static void forgeNumberOfOthers() {
        DUE.sentence(31, "2 SHEET k modulo 4 is taken for one of sort 1: 11;");
        KnowHouse x = sheet(1, 0, 5, 6);
        x.sheet(2, 2, 2);
        DUE.refused(x, "forge(2, 0, 1) of bytes", x.forge(2, 0, 1), 11);
        DUE.refused(x, "forge(2, 9, 1) of bytes", x.forge(2, 9, 1), 11);
        DUE.refused(x, "forge(2, 0, 2) of ints", x.forge(2, 0, 2), 11);
        DUE.refused(x, "forge(2, -1, 2) of ints", x.forge(2, -1, 2), 11);
        DUE.refused(x, "forge(2, 0, 3) of a missing one", x.forge(2, 0, 3), 10);
        DUE.refused(x, "forge(2, -1, 3) of a missing one", x.forge(2, -1, 3), 10);
        DUE.refused(x, "forge(2, 99, 0) of a missing one", x.forge(2, 99, 0), 10);
    }

    private static void forgeNumberModulo() {
        DUE.sentence(31, "2 SHEET k modulo 4");
        KnowHouse x = new KnowHouse();
        for (int s = 0; s < 4; s++) {
            x.sheet(s, 1, 1);
            x.cell(s, 0, 50 + s);
        }
        for (int k = -100; k <= 100; k++) {
            DUE.done(x, "forge(2, 0, " + k + ")", x.forge(2, 0, k), 50 + (k + 100) % 4);
        }
    }

    private static void forgeCopy() {
        DUE.sentence(31, "from its number 1 on, are copied to a row of 6 from place n on");
        for (int size = 1; size < 8; size++) {
            KnowHouse x = new KnowHouse();
            x.sheet(1, 0, size);
            for (int i = 0; i < size; i++) {
                x.cell(1, i, 1 << i);
            }
            int fits = Math.min(3, size - 1);
            for (int n = 0; n <= 7; n++) {
                String call = "forge(3, " + n + ", 1) of " + size;
                if (n <= fits) {
                    DUE.done(x, call, x.forge(3, n, 1), (2 << n) - 2);
                } else {
                    DUE.refused(x, call, x.forge(3, n, 1), 12);
                }
            }
        }
    }

    private static void forgeCopyOfOthers() {
        DUE.sentence(31, "taken for one of sort 0 (11)");
        KnowHouse x = sheet(1, 1, 5, 6, 7);
        x.sheet(2, 2, 3);
        DUE.refused(x, "forge(3, 1, 1) of shorts", x.forge(3, 1, 1), 11);
        DUE.refused(x, "forge(3, 1, 2) of ints", x.forge(3, 1, 2), 11);
        DUE.refused(x, "forge(3, -1, 1) of shorts", x.forge(3, -1, 1), 11);
        DUE.refused(x, "forge(3, 4, 2) of ints", x.forge(3, 4, 2), 11);
        DUE.refused(x, "forge(3, 1, 3) of a missing one", x.forge(3, 1, 3), 10);
        DUE.refused(x, "forge(3, -1, 3) of a missing one", x.forge(3, -1, 3), 10);
        x.sheet(3, 0, 2);
        x.cell(3, 1, -7);
        DUE.done(x, "forge(3, 1, -1)", x.forge(3, 1, -1), -7);
        DUE.done(x, "forge(3, 1, 99)", x.forge(3, 1, 99), -7);
        DUE.done(x, "forge(3, 1, -97)", x.forge(3, 1, -97), -7);
    }

    private static void forgeCopyOfNone() {
        DUE.sentence(31, "12 (n below 0, or they do not stand there in both; also if it has no numbers at all)");
        KnowHouse x = sheet(0, 0, 9, 8, 7, 6, 5);
        DUE.refused(x, "forge(3, -1, 0)", x.forge(3, -1, 0), 12);
        DUE.refused(x, "forge(3, -100, 0)", x.forge(3, -100, 0), 12);
        DUE.refused(x, "forge(3, 4, 0): 4 + 4 is above 6", x.forge(3, 4, 0), 12);
        DUE.done(x, "forge(3, 3, 0)", x.forge(3, 3, 0), 21);
        DUE.refused(x, "forge(3, 100, 0)", x.forge(3, 100, 0), 12);
        KnowHouse y = sheet(0, 0);
        DUE.refused(y, "forge(3, 0, 0) of no numbers", y.forge(3, 0, 0), 12);
        KnowHouse z = sheet(0, 0, 9);
        DUE.done(z, "forge(3, 0, 0) of one number", z.forge(3, 0, 0), 0);
        DUE.refused(z, "forge(3, 1, 0) of one number", z.forge(3, 1, 0), 12);
    }

    private static void forgePut() {
        DUE.sentence(31, "4 CHANGE k modulo 60 is put into a row that takes FORMED and MOVED ones: 14");
        KnowHouse x = ofAllKinds();
        int[] off = {0, 60, -60};
        for (int by : off) {
            for (int k = 0; k < 6; k++) {
                String call = "forge(4, 0, " + (k + by) + ")";
                if (k == 1 || k == 5) {
                    DUE.done(x, call, x.forge(4, 0, k + by), k);
                } else {
                    DUE.refused(x, call, x.forge(4, 0, k + by), 14);
                }
            }
        }
    }

    private static void forgePutNothing() {
        DUE.sentence(31, "answers its KIND (0: there is no such)");
        KnowHouse x = ofAllKinds();
        int[] none = {6, 59, -1, -54, 66, 100, -100};
        for (int k : none) {
            DUE.done(x, "forge(4, 0, " + k + ")", x.forge(4, 0, k), 0);
        }
    }

    private static void forgeQuotient() {
        DUE.sentence(31, "5 1000 is divided by n (cut): 15.");
        KnowHouse x = new KnowHouse();
        int[] by = {1, -1, 3, -3, 7, -7, 99, -99, 100, -100};
        int[] cut = {1000, -1000, 333, -333, 142, -142, 10, -10, 10, -10};
        for (int i = 0; i < by.length; i++) {
            DUE.done(x, "forge(5, " + by[i] + ", 0)", x.forge(5, by[i], 0), cut[i]);
        }
    }

    private static void forgeByZero() {
        DUE.sentence(31, "15 divided by 0");
        KnowHouse x = new KnowHouse();
        DUE.refused(x, "forge(5, 0, 0)", x.forge(5, 0, 0), 15);
        DUE.refused(x, "forge(5, 0, 100)", x.forge(5, 0, 100), 15);
        DUE.done(x, "forge(5, 1, 0)", x.forge(5, 1, 0), 1000);
    }

    private static void forgeFailure() {
        DUE.sentence(31, "6 a failure is thrown: n modulo 2 is 0: none is there: 10; 1: one that is caught at once");
        KnowHouse x = new KnowHouse();
        for (int n = -100; n <= 100; n++) {
            if (n % 2 == 0) {
                DUE.refused(x, "forge(6, " + n + ", 0)", x.forge(6, n, 0), 10);
            } else {
                DUE.done(x, "forge(6, " + n + ", 0)", x.forge(6, n, 0), 1);
            }
        }
    }

    private static void forgeDoesNotMatter() {
        DUE.sentence(31, "What the host does, by what");
        KnowHouse x = ofAllKinds();
        DUE.done(x, "forge(1, 5, k)", x.forge(1, 5, 77), 5);
        DUE.done(x, "forge(4, n, 5)", x.forge(4, -77, 5), 5);
        DUE.done(x, "forge(5, 2, k)", x.forge(5, 2, -77), 500);
        DUE.done(x, "forge(6, 3, k)", x.forge(6, 3, 77), 1);
    }
}
