/** Counts the answers that are not the ones that are due. */
final class Due {
    private int wrong;

    void is(String call, long got, long want) {
        if (got != want) {
            wrong++;
            System.out.println(call + " answered " + got + ", due is " + want);
        }
    }

    /** A call that is no question is refused: it answers -1, and STATUS tells why. */
    void refused(KnowHouse x, String call, int got, int why) {
        is(call, got, -1);
        is("status() behind " + call, x.status(), why);
    }

    /** A call that is no question is done. */
    void done(KnowHouse x, String call, int got, int want) {
        is(call, got, want);
        is("status() behind " + call, x.status(), 0);
    }

    void end() {
        if (wrong != 0) {
            System.out.println(wrong + " answers are not as due");
            System.exit(1);
        }
    }
}
