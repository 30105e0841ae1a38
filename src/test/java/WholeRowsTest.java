/** Promises 24 and 25: what is reckoned of whole rows, in pieces. */
public final class WholeRowsTest {
    private static final Class<IllegalArgumentException> ARGUMENT = IllegalArgumentException.class;
    private static final Class<IndexOutOfBoundsException> INDEX = IndexOutOfBoundsException.class;
    private static final char[] KINDS = {'i', 'l', 'o'};
    private static final int[] NO_SIZES = {0, 49, -1, Integer.MIN_VALUE, Integer.MAX_VALUE};
    private static final Check CHECK = new Check("WholeRowsTest");

    public static void main(String[] args) {
        foldOfEmptyRows();
        foldOfFewNumbers();
        foldWhateverTheSize();
        foldGoesRound();
        foldTellsTheFirstGreatest();
        foldRefuses();
        pieces();
        piecesRefuses();
        CHECK.end();
    }

    private static void foldOfEmptyRows() {
        Splityard yard = new Splityard();
        for (char kind : KINDS) {
            CHECK.same("sum of none", 0L, yard.fold(kind, 0, 1, 's'));
            CHECK.same("exclusive or of none", 0L, yard.fold(kind, 0, 1, 'x'));
            CHECK.same("hash of none", 0L, yard.fold(kind, 0, 48, 'h'));
            CHECK.same("greatest of none", -1L, yard.fold(kind, 0, 48, 'f'));
        }
    }

    private static void foldOfFewNumbers() {
        Splityard yard = new Splityard();
        for (char kind : KINDS) {
            yard.append(kind, 2, 5);
            yard.append(kind, 2, -3);
            yard.append(kind, 2, 9);
            for (int most = 1; most <= 4; most++) {
                CHECK.same("sum", 11L, yard.fold(kind, 2, most, 's'));
                CHECK.same("exclusive or", (5L ^ -3L ^ 9L), yard.fold(kind, 2, most, 'x'));
                CHECK.same("hash", 5L * 961 - 3 * 31 + 9, yard.fold(kind, 2, most, 'h'));
                CHECK.same("greatest", 2L, yard.fold(kind, 2, most, 'f'));
            }
        }
    }

    private static void foldWhateverTheSize() {
        Splityard yard = new Splityard();
        yard.lay('l', 0, 47, 0x123456789ABCDEFL, 0x3141592653589793L);
        long sum = 0;
        long mixed = 0;
        long hash = 0;
        for (int place = 0; place < 47; place++) {
            long number = yard.number('l', 0, place);
            sum += number;
            mixed ^= number;
            hash = 31 * hash + number;
        }
        for (int most = 1; most <= 48; most++) {
            CHECK.same("sum by " + most, sum, yard.fold('l', 0, most, 's'));
            CHECK.same("exclusive or by " + most, mixed, yard.fold('l', 0, most, 'x'));
            CHECK.same("hash by " + most, hash, yard.fold('l', 0, most, 'h'));
        }
        CHECK.same("the row stays", 47, yard.length('l', 0));
    }

    private static void foldGoesRound() {
        Splityard yard = new Splityard();
        yard.lay('l', 0, 2, Long.MAX_VALUE, 0);
        CHECK.same("sum goes round", -2L, yard.fold('l', 0, 1, 's'));
        yard.lay('i', 0, 2, Integer.MAX_VALUE, 0);
        CHECK.same("sum of ints is a long", 4294967294L, yard.fold('i', 0, 1, 's'));
        yard.lay('o', 0, 1, -1, 0);
        CHECK.same("exclusive or as longs", -1L, yard.fold('o', 0, 1, 'x'));
    }

    private static void foldTellsTheFirstGreatest() {
        Splityard yard = new Splityard();
        int[] numbers = {-7, -2, -9, -2, -3, -2};
        for (int number : numbers) {
            yard.append('i', 0, number);
        }
        yard.lay('l', 0, 48, 4, 0);
        yard.lay('l', 1, 2, Long.MIN_VALUE, 0);
        yard.lay('l', 2, 2, Long.MIN_VALUE, -1);
        yard.lay('o', 0, 48, 4, -1);
        yard.lay('o', 1, 48, 4, 1);
        for (int most = 1; most <= 48; most++) {
            CHECK.same("first of the greatest by " + most, 1L, yard.fold('i', 0, most, 'f'));
            CHECK.same("first of the same by " + most, 0L, yard.fold('l', 0, most, 'f'));
            CHECK.same("first of the least by " + most, 0L, yard.fold('l', 1, most, 'f'));
            CHECK.same("least and greatest by " + most, 1L, yard.fold('l', 2, most, 'f'));
            CHECK.same("falling by " + most, 0L, yard.fold('o', 0, most, 'f'));
            CHECK.same("rising by " + most, 47L, yard.fold('o', 1, most, 'f'));
        }
    }

    private static void foldRefuses() {
        Splityard yard = new Splityard();
        yard.lay('i', 0, 5, 1, 1);
        CHECK.refused("fold no kind", ARGUMENT, yard, () -> yard.fold('x', 4, 1, 's'));
        CHECK.refused("fold no how", ARGUMENT, yard, () -> yard.fold('i', 4, 1, 'a'));
        CHECK.refused("fold no how", ARGUMENT, yard, () -> yard.fold('i', 0, 1, (char) 0));
        for (int most : NO_SIZES) {
            CHECK.refused("fold by " + most, ARGUMENT, yard, () -> yard.fold('i', 0, most, 's'));
            CHECK.refused("fold no row by " + most, ARGUMENT, yard, () -> yard.fold('i', -1, most, 's'));
        }
        CHECK.refused("fold no row", INDEX, yard, () -> yard.fold('i', 4, 1, 's'));
        CHECK.refused("fold no row", INDEX, yard, () -> yard.fold('l', -1, 48, 'f'));
    }

    private static int due(int many, int most) {
        return many <= most ? 1 : due(many / 2, most) + due(many - many / 2, most);
    }

    private static void pieces() {
        Splityard yard = new Splityard();
        CHECK.same("pieces of none", 1, yard.pieces('o', 0, 1));
        for (int many = 0; many <= 48; many++) {
            char kind = KINDS[many % 3];
            yard.lay(kind, 1, many, 0, 1);
            for (int most = 1; most <= 48; most += many % 2 == 0 ? 1 : 5) {
                CHECK.same("pieces of " + many + " by " + most, due(many, most), yard.pieces(kind, 1, most));
            }
            yard = new Splityard();
        }
        yard.lay('i', 0, 7, 0, 1);
        CHECK.same("pieces of 7 by 2", 4, yard.pieces('i', 0, 2));
        CHECK.same("pieces of 7 by 1", 7, yard.pieces('i', 0, 1));
        CHECK.same("pieces of 7 by 7", 1, yard.pieces('i', 0, 7));
    }

    private static void piecesRefuses() {
        Splityard yard = new Splityard();
        CHECK.refused("pieces of no kind", ARGUMENT, yard, () -> yard.pieces('x', 4, 1));
        for (int most : NO_SIZES) {
            CHECK.refused("pieces by " + most, ARGUMENT, yard, () -> yard.pieces('i', 0, most));
            CHECK.refused("pieces of no row by " + most, ARGUMENT, yard, () -> yard.pieces('i', 4, most));
        }
        CHECK.refused("pieces of no row", INDEX, yard, () -> yard.pieces('i', 4, 1));
        CHECK.refused("pieces of no row", INDEX, yard, () -> yard.pieces('o', -1, 48));
    }
}
