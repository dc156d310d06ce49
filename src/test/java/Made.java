/** Makes objects and FILES for the tests. */
final class Made {
    private Made() {
    }

    /** An object with so many PEOPLE, each with so many HOURS. */
    static KnowHouse with(int people, int hours) {
        KnowHouse x = new KnowHouse();
        for (int p = 0; p < people; p++) {
            x.person(hours);
        }
        return x;
    }

    static int change(KnowHouse x, int kind, int file, int hand, int other, int... texts) {
        for (int text : texts) {
            x.text(text);
        }
        return x.change(kind, file, hand, other);
    }

    /** So many LINES of TEXTS 1000, 1010, .. by a HAND. */
    static int lines(KnowHouse x, int file, int hand, int many) {
        for (int i = 0; i < many; i++) {
            x.text(1000 + 10 * i);
        }
        return x.change(0, file, hand, 0);
    }

    static void day(KnowHouse x, int on) {
        for (int left = on; left > 0; left -= 1000) {
            x.day(Math.min(left, 1000));
        }
    }
}
