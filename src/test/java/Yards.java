/** Objects that the tests begin with. */
final class Yards {
    static final char[] KINDS = {'i', 'l', 'o'};
    /** The two kinds whose pieces can become iterators. */
    static final char[] ITERATED = {'i', 'l'};

    private Yards() {
    }

    static Splityard fresh() {
        return new Splityard();
    }

    /** A row of the numbers 1 to so many. */
    static Splityard laid(char kind, int row, int many) {
        Splityard yard = new Splityard();
        yard.lay(kind, row, many, 1, 1);
        return yard;
    }

    /** Bench 0, opened for row 0 of the numbers 1 to so many. */
    static Splityard opened(char kind, int many) {
        Splityard yard = laid(kind, 0, many);
        yard.openAll(0, kind, 0);
        return yard;
    }

    /** As opened, with an iterator for the piece; no kind but i and l. */
    static Splityard iterated(char kind, int many) {
        Splityard yard = opened(kind, many);
        yard.iterate(0, 0);
        return yard;
    }

    /** Bench 0 of the numbers 1 to so many, all of them given, and no piece. */
    static Splityard read(char kind, int many) {
        Splityard yard = opened(kind, many);
        yard.drain(0, 0);
        yard.sweep(0);
        return yard;
    }

    /** Bench 0 of the numbers 1 to 48, each of them given, with an empty piece behind it; takes 52 calls. */
    static Splityard mostItems(char kind) {
        Splityard yard = opened(kind, 48);
        yard.crumble(0, 1);
        for (int item = 0; item < 96; item += 2) {
            yard.step(0, item);
        }
        return yard;
    }

    /**
     * Bench 3 as n2 n3 t2 n6 n7 p0 p4, of numbers that were neither the first nor the last ones of row 1, which has
     * been changed since; for the kind o, which has no iterators, with p2 for t2.
     */
    static Splityard mixed(char kind) {
        Splityard yard = laid(kind, 1, 12);
        yard.open(3, kind, 1, 1, 11);
        yard.step(3, 0);
        yard.step(3, 1);
        yard.split(3, 2);
        yard.split(3, 2);
        yard.drain(3, 3);
        if (kind != 'o') {
            yard.iterate(3, 2);
        }
        yard.lay(kind, 1, 5, -3, -4);
        return yard;
    }
}
