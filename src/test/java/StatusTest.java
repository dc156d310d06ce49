/** Promise 32: STATUS is of the latest call that is no question. */
final class StatusTest {
    private static final Due DUE = new Due();

    public static void main(String[] args) {
        KnowHouse x = Made.with(1, 1);
        DUE.is("32: status() behind person", x.status(), 0);
        x.text(9);
        ask(x);
        DUE.is("32: questions leave STATUS", x.status(), 1);
        DUE.is("32: status() leaves it, too", x.status(), 1);
        x.forge(5, 0, 0);
        ask(x);
        DUE.is("32: questions leave STATUS 15", x.status(), 15);
        x.wipe();
        DUE.is("32: status() behind wipe", x.status(), 0);
        x.text(9);
        x.image();
        DUE.is("32: status() behind image", x.status(), 0);
        x.text(9);
        x.restore();
        DUE.is("32: status() behind restore", x.status(), 0);
        each();
        DUE.end();
    }

    /** Questions, with numbers that there are and ones that there are not. */
    private static void ask(KnowHouse x) {
        for (int n = -1; n < 2; n++) {
            x.lines(n);
            x.line(0, 0, n);
            x.mark(0, 0, 0, n);
            x.changeTold(0, n);
            x.points(n, 0, 0);
            x.knows(n, 0);
            x.able(n, 0);
            x.lost(n);
            x.lone(n);
            x.cover();
            x.plan(n, n);
            x.sum(n, 0);
            x.count(n);
            x.trace(n);
        }
    }

    /** Each call that is no question sets STATUS 0 when it is done. */
    private static void each() {
        for (int call = 0; call < 16; call++) {
            KnowHouse x = Made.with(2, 1);
            Made.change(x, 0, 0, 0, 0, 100);
            x.sheet(0, 0, 2);
            x.cell(0, 0, 20);
            x.cell(0, 1, 30);
            x.image();
            x.text(9);
            make(x, call);
            DUE.is("32: status() behind call " + call, x.status(), 0);
        }
    }

    private static int make(KnowHouse x, int call) {
        switch (call) {
            case 0:
                return x.person(1);
            case 1:
                return x.here(0, true);
            case 2:
                return x.day(1);
            case 3:
                return x.share(1);
            case 4:
                return x.text(10);
            case 5:
                return x.wipe();
            case 6:
                return x.change(0, 0, 0, 0);
            case 7:
                return x.back(0, 0);
            case 8:
                return x.read(0, 0, 0, 0);
            case 9:
                return x.image();
            case 10:
                return x.restore();
            case 11:
                return x.sheet(0, 0, 0);
            case 12:
                return x.cell(0, 0, 0);
            case 13:
                return x.come(0, 0);
            case 14:
                return x.act(0, 0, 0);
            default:
                return x.forge(1, 0, 0);
        }
    }
}
