/** Promise 24: sum; and whose LINES are counted by changeTold (16). */
final class SumTest {
    private static final Due DUE = new Due();

    public static void main(String[] args) {
        KnowHouse x = Made.with(4, 1);
        Made.change(x, 0, 0, 0, 0, 100, 200, 300);
        Made.change(x, 3, 0, 1, 0, 100, 200, 400);
        Made.change(x, 2, 1, 2, 0, 100, 200);
        Made.change(x, 3, 1, 2, 1, 100, 300);
        DUE.is("24: sum(0, 0)", x.sum(0, 0), 5);
        DUE.is("24: sum(1, 0)", x.sum(1, 0), 1);
        DUE.is("24: sum(2, 0)", x.sum(2, 0), 0);
        DUE.is("24: sum(2, 1)", x.sum(2, 1), 3);
        DUE.is("24: sum(1, 1)", x.sum(1, 1), 1);
        DUE.is("24: sum(0, -1)", x.sum(0, -1), 5);
        DUE.is("24: sum(1, -1)", x.sum(1, -1), 2);
        DUE.is("24: sum(2, -1)", x.sum(2, -1), 3);
        DUE.is("24: sum(3, -1)", x.sum(3, -1), 0);
        DUE.is("24: sum(4, -1)", x.sum(4, -1), -1);
        DUE.is("24: sum(-1, 0)", x.sum(-1, 0), -1);
        DUE.is("24: sum(0, 6)", x.sum(0, 6), -1);
        DUE.is("24: sum(0, -2)", x.sum(0, -2), -1);
        DUE.is("24: sum(0, 5)", x.sum(0, 5), 0);
        x.here(0, false);
        DUE.is("24: sum of one that is not HERE", x.sum(0, 0), 5);
        x.back(0, 2);
        DUE.is("24: sum(0, 0) behind a BACK", x.sum(0, 0), 0);
        x.back(4, 3);
        DUE.is("24: sum(0, 0) back again", x.sum(0, 0), 5);
        DUE.is("24: a BACK is nobody's MAKER", x.sum(3, -1), 0);
        DUE.is("16: changeTold(0, 7)", x.changeTold(0, 7), 2);
        DUE.is("16: changeTold(1, 7)", x.changeTold(1, 7), 1);
        DUE.is("16: changeTold(2, 7)", x.changeTold(2, 7), 1);
        DUE.end();
    }
}
