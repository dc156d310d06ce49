/** Promises 28 to 31: sheet, cell, come, forge. */
final class SheetsTest {
    private static final Due DUE = new Due();

    public static void main(String[] args) {
        sheet();
        cell();
        cellOfBytes();
        come();
        comeRefused();
        forgeRefused();
        forgeKind();
        forgeRow();
        forgeNumber();
        forgeCopy();
        forgePut();
        forgeQuotient();
        forgeFailure();
        DUE.end();
    }

    private static KnowHouse sheetOf(int sheet, int sort, int... numbers) {
        KnowHouse x = Made.with(2, 1);
        x.sheet(sheet, sort, numbers.length);
        for (int i = 0; i < numbers.length; i++) {
            x.cell(sheet, i, numbers[i]);
        }
        return x;
    }

    private static void sheet() {
        KnowHouse x = new KnowHouse();
        DUE.refused(x, "28: sheet(-1, 0, 0)", x.sheet(-1, 0, 0), 1);
        DUE.refused(x, "28: sheet(4, 0, 0)", x.sheet(4, 0, 0), 1);
        DUE.refused(x, "28: sheet(4, -1, 0)", x.sheet(4, -1, 0), 1);
        DUE.refused(x, "28: sheet(0, -2, 0)", x.sheet(0, -2, 0), 1);
        DUE.refused(x, "28: sheet(0, 3, 0)", x.sheet(0, 3, 0), 1);
        DUE.refused(x, "28: sheet(0, 0, -1)", x.sheet(0, 0, -1), 1);
        DUE.refused(x, "28: sheet(0, 0, 41)", x.sheet(0, 0, 41), 1);
        DUE.refused(x, "28: missing still", x.come(0, 0), 10);
        DUE.done(x, "28: sheet(3, 1, 40)", x.sheet(3, 1, 40), 1);
        DUE.done(x, "28: its number 39", x.forge(2, 39, 3), 0);
        DUE.refused(x, "28: its number 40", x.forge(2, 40, 3), 12);
        x.cell(3, 39, 7);
        DUE.done(x, "28: sheet(3, 1, 40) anew", x.sheet(3, 1, 40), 1);
        DUE.done(x, "28: all 0 again", x.forge(2, 39, 3), 0);
        x.cell(3, 1, 7);
        DUE.refused(x, "28: sheet(3, 1, 41)", x.sheet(3, 1, 41), 1);
        DUE.done(x, "28: it stays", x.forge(2, 1, 3), 7);
        DUE.done(x, "28: sheet(3, -1, -5)", x.sheet(3, -1, -5), 1);
        DUE.refused(x, "28: missing then", x.forge(2, 0, 3), 10);
        DUE.done(x, "28: sheet(3, -1, 0) again", x.sheet(3, -1, 0), 1);
        DUE.done(x, "28: sheet(3, 1, 0)", x.sheet(3, 1, 0), 1);
        DUE.refused(x, "28: no numbers", x.forge(2, 0, 3), 12);
    }

    private static void cell() {
        KnowHouse x = new KnowHouse();
        DUE.refused(x, "29: cell(0, 0, 0) of a missing one", x.cell(0, 0, 0), 10);
        DUE.refused(x, "29: cell(0, 0, 10001) of a missing one", x.cell(0, 0, 10001), 1);
        x.sheet(0, 1, 2);
        DUE.refused(x, "29: cell(-1, 0, 0)", x.cell(-1, 0, 0), 1);
        DUE.refused(x, "29: cell(4, 0, 0)", x.cell(4, 0, 0), 1);
        DUE.refused(x, "29: cell(0, 0, 10001)", x.cell(0, 0, 10001), 1);
        DUE.refused(x, "29: cell(0, 0, -10001)", x.cell(0, 0, -10001), 1);
        DUE.refused(x, "29: cell(0, 2, 10001)", x.cell(0, 2, 10001), 1);
        DUE.refused(x, "29: cell(0, 2, 0)", x.cell(0, 2, 0), 12);
        DUE.refused(x, "29: cell(0, -1, 0)", x.cell(0, -1, 0), 12);
        DUE.refused(x, "29: cell(0, MIN, 0)", x.cell(0, Integer.MIN_VALUE, 0), 12);
        DUE.done(x, "29: number 0 stays", x.forge(2, 0, 0), 0);
        DUE.done(x, "29: cell(0, 1, 10000)", x.cell(0, 1, 10000), 1);
        DUE.done(x, "29: 10000", x.forge(2, 1, 0), 10000);
        DUE.done(x, "29: cell(0, 1, -10000)", x.cell(0, 1, -10000), 1);
        DUE.done(x, "29: -10000", x.forge(2, 1, 0), -10000);
        DUE.done(x, "29: number 0 still stays", x.forge(2, 0, 0), 0);
    }

    private static void cellOfBytes() {
        int[] put = {127, 128, 255, 256, 300, -128, -129, -10000, 10000, -1};
        int[] held = {127, -128, -1, 0, 44, -128, 127, -16, 16, -1};
        for (int i = 0; i < put.length; i++) {
            KnowHouse x = sheetOf(1, 0, 0, put[i]);
            DUE.done(x, "29: " + put[i] + " as a byte", x.forge(3, 1, 1), held[i]);
        }
        KnowHouse x = sheetOf(1, 2, 300);
        x.come(1, 2);
        x.change(0, 0, 0, 0);
        DUE.is("29: 300 as an int", x.line(0, 0, 0), 300);
    }

    private static void come() {
        for (int sort = 0; sort < 3; sort++) {
            KnowHouse x = sheetOf(sort, sort, 10, 100, sort == 0 ? 127 : 9999);
            x.text(77);
            x.text(78);
            DUE.done(x, "30: come of sort " + sort, x.come(sort, sort), 3);
            DUE.is("30: count(4)", x.count(4), 3);
            x.cell(sort, 0, 11);
            x.text(79);
            x.change(0, 0, 0, 0);
            int[] texts = {10, 100, sort == 0 ? 127 : 9999, 79};
            DUE.is("30: lines(0)", x.lines(0), 4);
            for (int i = 0; i < 4; i++) {
                DUE.is("30: TEXT " + i, x.line(0, i, 0), texts[i]);
            }
        }
        KnowHouse x = sheetOf(0, 2);
        x.text(10);
        DUE.done(x, "30: come of no numbers", x.come(0, 2), 0);
        DUE.is("30: THE TAPE is empty", x.count(4), 0);
        int[] twenty = new int[20];
        java.util.Arrays.fill(twenty, 50);
        DUE.done(x, "30: come of twenty", sheetOf(0, 1, twenty).come(0, 1), 20);
    }

    private static void comeRefused() {
        KnowHouse x = sheetOf(0, 2, 100, 200);
        x.text(10);
        DUE.refused(x, "30: come(-1, 2)", x.come(-1, 2), 1);
        DUE.refused(x, "30: come(4, 2)", x.come(4, 2), 1);
        DUE.refused(x, "30: come(0, -1)", x.come(0, -1), 1);
        DUE.refused(x, "30: come(0, 3)", x.come(0, 3), 1);
        DUE.refused(x, "30: come(1, 3) of a missing one", x.come(1, 3), 1);
        DUE.refused(x, "30: come(1, 2) of a missing one", x.come(1, 2), 10);
        DUE.refused(x, "30: come(0, 1)", x.come(0, 1), 11);
        DUE.refused(x, "30: come(0, 0)", x.come(0, 0), 11);
        x.cell(0, 1, 9);
        DUE.refused(x, "30: no TEXT, of another sort", x.come(0, 1), 11);
        DUE.refused(x, "30: no TEXT, 9", x.come(0, 2), 3);
        x.cell(0, 0, 9);
        x.cell(0, 1, 200);
        DUE.refused(x, "30: no TEXT, the first one", x.come(0, 2), 3);
        x.cell(0, 0, 100);
        x.cell(0, 1, 10000);
        DUE.refused(x, "30: no TEXT, 10000", x.come(0, 2), 3);
        x.cell(0, 1, -100);
        DUE.refused(x, "30: no TEXT, -100", x.come(0, 2), 3);
        x.sheet(1, 2, 21);
        DUE.refused(x, "30: too many, of another sort", x.come(1, 1), 11);
        DUE.refused(x, "30: too many, and no TEXTS", x.come(1, 2), 2);
        DUE.is("30: THE TAPE stays", x.count(4), 1);
        x.change(0, 0, 0, 0);
        DUE.is("30: its TEXT stays", x.line(0, 0, 0), 10);
    }

    private static void forgeRefused() {
        KnowHouse x = new KnowHouse();
        DUE.refused(x, "31: forge(-1, 0, 0)", x.forge(-1, 0, 0), 1);
        DUE.refused(x, "31: forge(7, 0, 0)", x.forge(7, 0, 0), 1);
        for (int what = 0; what < 7; what++) {
            DUE.refused(x, "31: forge(" + what + ", 101, 0)", x.forge(what, 101, 0), 1);
            DUE.refused(x, "31: forge(" + what + ", -101, 0)", x.forge(what, -101, 0), 1);
            DUE.refused(x, "31: forge(" + what + ", 1, 101)", x.forge(what, 1, 101), 1);
            DUE.refused(x, "31: forge(" + what + ", 1, -101)", x.forge(what, 1, -101), 1);
        }
        DUE.done(x, "31: forge(5, 100, 100)", x.forge(5, 100, 100), 10);
        DUE.done(x, "31: forge(5, -100, -100)", x.forge(5, -100, -100), -10);
    }

    /** CHANGES 0 to 5 of the KINDS 0 to 5. */
    private static KnowHouse ofAllKinds() {
        KnowHouse x = Made.with(2, 1);
        for (int kind = 0; kind < 6; kind++) {
            if (kind == 4) {
                x.back(0, 0);
            } else {
                x.change(kind, 0, 0, 1);
            }
        }
        return x;
    }

    private static boolean isUnder(int kind, int top) {
        return top == 0 || kind == top || kind == 5 && top == 1;
    }

    private static void forgeKind() {
        KnowHouse x = ofAllKinds();
        for (int k = 0; k < 6; k++) {
            for (int n = 0; n < 6; n++) {
                String call = "31: forge(0, " + n + ", " + k + ")";
                if (isUnder(k, n)) {
                    DUE.done(x, call, x.forge(0, n, k), k);
                } else {
                    DUE.refused(x, call, x.forge(0, n, k), 11);
                }
            }
        }
        DUE.done(x, "31: forge(0, -5, 65)", x.forge(0, -5, 65), 5);
        DUE.done(x, "31: forge(0, 97, -55)", x.forge(0, 97, -55), 5);
        DUE.refused(x, "31: forge(0, -1, 0)", x.forge(0, -1, 0), 11);
        DUE.refused(x, "31: forge(0, 0, 6)", x.forge(0, 0, 6), 10);
        DUE.refused(x, "31: forge(0, 0, -1)", x.forge(0, 0, -1), 10);
    }

    private static void forgeRow() {
        KnowHouse x = new KnowHouse();
        DUE.done(x, "31: forge(1, 0, 0)", x.forge(1, 0, 0), 0);
        DUE.done(x, "31: forge(1, 100, 0)", x.forge(1, 100, 0), 100);
        DUE.refused(x, "31: forge(1, -1, 0)", x.forge(1, -1, 0), 13);
        DUE.refused(x, "31: forge(1, -100, 0)", x.forge(1, -100, 0), 13);
    }

    private static void forgeNumber() {
        KnowHouse x = sheetOf(2, 1, 50, -60, 70);
        DUE.done(x, "31: forge(2, 0, 2)", x.forge(2, 0, 2), 50);
        DUE.done(x, "31: forge(2, 1, 98)", x.forge(2, 1, 98), -60);
        DUE.done(x, "31: forge(2, 2, -2)", x.forge(2, 2, -2), 70);
        DUE.refused(x, "31: forge(2, 3, 2)", x.forge(2, 3, 2), 12);
        DUE.refused(x, "31: forge(2, -1, 2)", x.forge(2, -1, 2), 12);
        DUE.refused(x, "31: forge(2, 0, 3)", x.forge(2, 0, 3), 10);
        DUE.refused(x, "31: forge(2, -1, 3)", x.forge(2, -1, 3), 10);
        x.sheet(0, 0, 3);
        x.sheet(1, 2, 3);
        DUE.refused(x, "31: forge(2, 0, 0)", x.forge(2, 0, 0), 11);
        DUE.refused(x, "31: forge(2, 0, 1)", x.forge(2, 0, 1), 11);
        DUE.refused(x, "31: forge(2, 9, 1)", x.forge(2, 9, 1), 11);
    }

    private static void forgeCopy() {
        KnowHouse x = sheetOf(0, 0, 1, 2, 4, 8, 16);
        DUE.done(x, "31: forge(3, 0, 0)", x.forge(3, 0, 0), 0);
        DUE.done(x, "31: forge(3, 1, 4)", x.forge(3, 1, 4), 2);
        DUE.done(x, "31: forge(3, 2, -4)", x.forge(3, 2, -4), 6);
        DUE.done(x, "31: forge(3, 3, 0)", x.forge(3, 3, 0), 14);
        DUE.refused(x, "31: forge(3, 4, 0), not in the row", x.forge(3, 4, 0), 12);
        DUE.refused(x, "31: forge(3, -1, 0)", x.forge(3, -1, 0), 12);
        DUE.refused(x, "31: forge(3, 0, 1)", x.forge(3, 0, 1), 10);
        DUE.refused(x, "31: forge(3, -1, 1)", x.forge(3, -1, 1), 10);
        x.sheet(0, 0, 3);
        DUE.done(x, "31: forge(3, 2, 0) of three", x.forge(3, 2, 0), 0);
        DUE.refused(x, "31: forge(3, 3, 0) of three", x.forge(3, 3, 0), 12);
        x.sheet(0, 0, 1);
        DUE.done(x, "31: forge(3, 0, 0) of one", x.forge(3, 0, 0), 0);
        DUE.refused(x, "31: forge(3, 1, 0) of one", x.forge(3, 1, 0), 12);
        x.sheet(0, 0, 0);
        DUE.refused(x, "31: forge(3, 0, 0) of none", x.forge(3, 0, 0), 12);
        x.sheet(0, 1, 5);
        DUE.refused(x, "31: forge(3, 0, 0) of shorts", x.forge(3, 0, 0), 11);
        x.sheet(0, 2, 5);
        DUE.refused(x, "31: forge(3, 9, 0) of ints", x.forge(3, 9, 0), 11);
    }

    private static void forgePut() {
        KnowHouse x = ofAllKinds();
        for (int k = 0; k < 6; k++) {
            if (k == 1 || k == 5) {
                DUE.done(x, "31: forge(4, 0, " + k + ")", x.forge(4, 0, k), k);
            } else {
                DUE.refused(x, "31: forge(4, 0, " + k + ")", x.forge(4, 0, k), 14);
            }
        }
        DUE.done(x, "31: forge(4, 0, 6)", x.forge(4, 0, 6), 0);
        DUE.done(x, "31: forge(4, 0, -55)", x.forge(4, 0, -55), 5);
        DUE.done(x, "31: forge(4, 0, 61)", x.forge(4, 0, 61), 1);
        DUE.refused(x, "31: forge(4, 0, 60)", x.forge(4, 0, 60), 14);
    }

    private static void forgeQuotient() {
        KnowHouse x = new KnowHouse();
        DUE.done(x, "31: forge(5, 7, 0)", x.forge(5, 7, 0), 142);
        DUE.done(x, "31: forge(5, -7, 0)", x.forge(5, -7, 0), -142);
        DUE.done(x, "31: forge(5, 100, 0)", x.forge(5, 100, 0), 10);
        DUE.refused(x, "31: forge(5, 0, 1)", x.forge(5, 0, 1), 15);
    }

    private static void forgeFailure() {
        KnowHouse x = new KnowHouse();
        DUE.refused(x, "31: forge(6, 0, 0)", x.forge(6, 0, 0), 10);
        DUE.refused(x, "31: forge(6, -2, 0)", x.forge(6, -2, 0), 10);
        DUE.refused(x, "31: forge(6, 100, 1)", x.forge(6, 100, 1), 10);
        DUE.done(x, "31: forge(6, 1, 0)", x.forge(6, 1, 0), 1);
        DUE.done(x, "31: forge(6, -1, 0)", x.forge(6, -1, 0), 1);
        DUE.done(x, "31: forge(6, 99, 0)", x.forge(6, 99, 0), 1);
    }
}
