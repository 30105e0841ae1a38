/** Promises 24 and 25, sentence by sentence: what is reckoned of whole rows, in pieces. */
public final class WholeRowsTest {
    private static final char[] KINDS = Yards.KINDS;
    private static final char[] HOWS = {'s', 'x', 'h', 'f'};
    private static final char[] NO_HOWS = {'a', 'e', 'g', 'i', 'r', 't', 'w', 'y', 'S', ' ', (char) 0, (char) 65535};
    private static final int[] LENGTHS = {0, 1, 2, 3, 7, 47, 48};
    private static final Check CHECK = new Check("WholeRowsTest");

    public static void main(String[] args) {
        foldOfAnEmptyRow();
        foldOfOneNumber();
        foldOfEachLength();
        foldSumGoesRound();
        foldSumOfIntsIsALong();
        foldExclusiveOrAsLongs();
        foldChainGoesRound();
        foldPlaceOfTheFirstGreatest();
        foldPlaceOfTheLeastNumber();
        foldChangesNothing();
        foldKinds();
        foldHows();
        foldSizes();
        foldRows();
        foldFirstOfSeveral();
        piecesOfEachLength();
        piecesOfAnEmptyRow();
        piecesOneNumberMore();
        piecesChangesNothing();
        piecesKinds();
        piecesSizes();
        piecesRows();
        piecesFirstOfSeveral();
        CHECK.end();
    }

    // Promise 24.

    private static void foldOfAnEmptyRow() {
        CHECK.of("24 fold, of an empty row 0, and -1 for the place");
        for (char kind : KINDS) {
            for (int most : new int[] {1, 2, 47, 48}) {
                CHECK.leaves("sum by " + most, 0L, Yards::fresh, yard -> yard.fold(kind, 0, most, 's'));
                CHECK.leaves("exclusive or by " + most, 0L, Yards::fresh, yard -> yard.fold(kind, 0, most, 'x'));
                CHECK.leaves("chain by " + most, 0L, Yards::fresh, yard -> yard.fold(kind, 0, most, 'h'));
                CHECK.leaves("place by " + most, -1L, Yards::fresh, yard -> yard.fold(kind, 0, most, 'f'));
            }
            Splityard emptied = Yards.laid(kind, 0, 5);
            emptied.lay(kind, 0, 0, 0, 0);
            CHECK.same("place in a row that was emptied", -1L, emptied.fold(kind, 0, 1, 'f'));
        }
    }

    private static void foldOfOneNumber() {
        CHECK.of("24 fold, of one number");
        for (char kind : KINDS) {
            for (int most : new int[] {1, 48}) {
                Splityard yard = new Splityard();
                yard.append(kind, 3, -6);
                CHECK.same("sum", -6L, yard.fold(kind, 3, most, 's'));
                CHECK.same("exclusive or", -6L, yard.fold(kind, 3, most, 'x'));
                CHECK.same("chain", -6L, yard.fold(kind, 3, most, 'h'));
                CHECK.same("place", 0L, yard.fold(kind, 3, most, 'f'));
            }
        }
    }

    private static void foldOfEachLength() {
        CHECK.of("24 fold, each how, of an empty row to a full one, in pieces of at most 1 to 48");
        for (char kind : KINDS) {
            for (int many : LENGTHS) {
                Splityard yard = uneven(kind, many);
                long[] numbers = new long[many];
                for (int place = 0; place < many; place++) {
                    numbers[place] = yard.number(kind, 1, place);
                }
                for (int most = 1; most <= 48; most++) {
                    for (char how : HOWS) {
                        CHECK.same(how + " of " + many + " by " + most, byNumber(numbers, how),
                                yard.fold(kind, 1, most, how));
                    }
                }
            }
        }
    }

    /** Row 1 of numbers that go round, so that each joining would show what is left out or taken twice. */
    private static Splityard uneven(char kind, int many) {
        Splityard yard = new Splityard();
        yard.lay(kind, 1, many, 0x9ABCDEF, 0x3141592653589793L);
        return yard;
    }

    private static long byNumber(long[] numbers, char how) {
        long sum = 0;
        long mixed = 0;
        long chain = 0;
        int greatest = -1;
        for (int place = 0; place < numbers.length; place++) {
            sum += numbers[place];
            mixed ^= numbers[place];
            chain = 31 * chain + numbers[place];
            greatest = greatest < 0 || numbers[place] > numbers[greatest] ? place : greatest;
        }
        return how == 's' ? sum : how == 'x' ? mixed : how == 'h' ? chain : greatest;
    }

    private static void foldSumGoesRound() {
        CHECK.of("24 fold, 's' a long that goes round");
        for (int most : new int[] {1, 2, 48}) {
            Splityard yard = new Splityard();
            yard.lay('l', 0, 2, Long.MAX_VALUE, 0);
            CHECK.same("up", -2L, yard.fold('l', 0, most, 's'));
            yard.lay('l', 0, 2, Long.MIN_VALUE, 0);
            CHECK.same("down", 0L, yard.fold('l', 0, most, 's'));
            yard.lay('l', 0, 2, Long.MIN_VALUE, -1);
            CHECK.same("the least and the greatest", -1L, yard.fold('l', 0, most, 's'));
            yard.lay('l', 0, 48, Long.MAX_VALUE, 0);
            CHECK.same("48 of the greatest", -48L, yard.fold('l', 0, most, 's'));
        }
    }

    private static void foldSumOfIntsIsALong() {
        CHECK.of("24 fold, 's' of ints is a long, too");
        for (char kind : new char[] {'i', 'o'}) {
            for (int most : new int[] {1, 2, 48}) {
                Splityard yard = new Splityard();
                yard.lay(kind, 0, 2, Integer.MAX_VALUE, 0);
                CHECK.same("above int", 4294967294L, yard.fold(kind, 0, most, 's'));
                yard.lay(kind, 0, 48, Integer.MIN_VALUE, 0);
                CHECK.same("below int", -103079215104L, yard.fold(kind, 0, most, 's'));
            }
        }
    }

    private static void foldExclusiveOrAsLongs() {
        CHECK.of("24 fold, 'x' as longs");
        for (char kind : KINDS) {
            for (int most : new int[] {1, 2, 48}) {
                Splityard yard = new Splityard();
                yard.lay(kind, 0, 2, -1, 2);
                CHECK.same("one below 0", -2L, yard.fold(kind, 0, most, 'x'));
                yard.lay(kind, 0, 2, Integer.MIN_VALUE, 0);
                CHECK.same("two of the same", 0L, yard.fold(kind, 0, most, 'x'));
                yard.lay(kind, 0, 1, Integer.MIN_VALUE, 0);
                CHECK.same("the least int", -2147483648L, yard.fold(kind, 0, most, 'x'));
            }
        }
    }

    private static void foldChainGoesRound() {
        CHECK.of("24 fold, 'h' a long that goes round");
        for (int most : new int[] {1, 2, 48}) {
            Splityard yard = new Splityard();
            yard.lay('l', 0, 2, Long.MAX_VALUE, 0);
            CHECK.same("of longs", -32L, yard.fold('l', 0, most, 'h'));
            yard.lay('l', 0, 3, Long.MIN_VALUE, 0);
            CHECK.same("of the least", Long.MIN_VALUE, yard.fold('l', 0, most, 'h'));
            for (char kind : KINDS) {
                yard.lay(kind, 1, 14, 1, 0);
                CHECK.same("of 14 ones " + kind, 6784720433650325728L, yard.fold(kind, 1, most, 'h'));
                yard.lay(kind, 1, 2, Integer.MAX_VALUE, 0);
                CHECK.same("of ints, as a long " + kind, 68719476704L, yard.fold(kind, 1, most, 'h'));
            }
        }
    }

    private static void foldPlaceOfTheFirstGreatest() {
        CHECK.of("24 fold, 'f' the first place of several that have the greatest number");
        long[] numbers = {-7, -2, -9, -2, -3, -2};
        for (char kind : KINDS) {
            Splityard yard = new Splityard();
            for (long number : numbers) {
                yard.append(kind, 0, number);
            }
            yard.lay(kind, 1, 48, 4, 0);
            yard.lay(kind, 2, 48, 4, -1);
            yard.lay(kind, 3, 48, 4, 1);
            for (int most = 1; most <= 48; most++) {
                CHECK.same("three of six by " + most, 1L, yard.fold(kind, 0, most, 'f'));
                CHECK.same("all of 48 by " + most, 0L, yard.fold(kind, 1, most, 'f'));
                CHECK.same("the first of 48 by " + most, 0L, yard.fold(kind, 2, most, 'f'));
                CHECK.same("the last of 48 by " + most, 47L, yard.fold(kind, 3, most, 'f'));
            }
        }
    }

    private static void foldPlaceOfTheLeastNumber() {
        CHECK.of("24 fold, 'f' of a row with the least number that there is");
        for (char kind : KINDS) {
            long least = kind == 'l' ? Long.MIN_VALUE : Integer.MIN_VALUE;
            for (int most : new int[] {1, 2, 48}) {
                Splityard yard = new Splityard();
                yard.lay(kind, 0, 3, least, 0);
                CHECK.same("the least alone", 0L, yard.fold(kind, 0, most, 'f'));
                yard.lay(kind, 0, 2, least, -1);
                CHECK.same("the least and the greatest", 1L, yard.fold(kind, 0, most, 'f'));
                yard.turn(kind, 0);
                CHECK.same("the greatest and the least", 0L, yard.fold(kind, 0, most, 'f'));
            }
        }
    }

    private static void foldChangesNothing() {
        CHECK.of("24 fold, which splits nothing that others see");
        for (char kind : KINDS) {
            for (char how : HOWS) {
                for (int most : new int[] {1, 48}) {
                    Splityard yard = Yards.mixed(kind);
                    yard.fold(kind, 1, most, how);
                    CHECK.same(how + " by " + most, Picture.of(Yards.mixed(kind)), Picture.of(yard));
                }
            }
        }
    }

    private static void foldKinds() {
        CHECK.of("24 fold, IllegalArgumentException if there is no such kind");
        for (char how : HOWS) {
            Ranges.noSuchKind(CHECK, "fold " + how, (yard, kind, row) -> yard.fold(kind, row, 1, how));
        }
    }

    private static void foldHows() {
        CHECK.of("24 fold, IllegalArgumentException if there is no such how");
        for (char how : NO_HOWS) {
            for (char kind : KINDS) {
                CHECK.refused("fold " + (int) how, Ranges.ARGUMENT,
                        () -> Yards.mixed(kind), yard -> yard.fold(kind, 1, 2, how));
                CHECK.refused("fold " + (int) how + " of an empty row", Ranges.ARGUMENT,
                        () -> Yards.mixed(kind), yard -> yard.fold(kind, 0, 2, how));
            }
        }
        for (int how = 0; how < 65536; how++) {
            char asked = (char) how;
            boolean isOne = "sxhf".indexOf(how) >= 0;
            CHECK.same("fold " + how, isOne ? "long" : "throws java.lang.IllegalArgumentException",
                    Check.answer(Yards.fresh(), yard -> yard.fold('l', 0, 1, asked) < 1 ? "long" : ""));
        }
    }

    private static void foldSizes() {
        CHECK.of("24 fold, IllegalArgumentException if the number is out of range, 1 to 48");
        for (char kind : KINDS) {
            for (char how : HOWS) {
                Ranges.noSuchSize(CHECK, "fold " + how, () -> Yards.mixed(kind),
                        (yard, most) -> yard.fold(kind, 1, most, how));
                Ranges.noSuchSize(CHECK, "fold " + how + " of none", () -> Yards.mixed(kind),
                        (yard, most) -> yard.fold(kind, 0, most, how));
            }
        }
    }

    private static void foldRows() {
        CHECK.of("24 fold, IndexOutOfBoundsException if there is no such row");
        for (char kind : KINDS) {
            for (int row = 0; row < 4; row++) {
                CHECK.same("fold of " + kind + row, 6L, Yards.laid(kind, row, 3).fold(kind, row, 1, 's'));
            }
        }
        for (char how : HOWS) {
            Ranges.noSuchRow(CHECK, "fold " + how, (yard, kind, row) -> yard.fold(kind, row, 1, how));
        }
    }

    private static void foldFirstOfSeveral() {
        CHECK.of("24 fold, the first of several exceptions");
        for (int row : Ranges.NO_ROWS) {
            for (char how : NO_HOWS) {
                CHECK.refused("no how, no row", Ranges.ARGUMENT,
                        () -> Yards.mixed('i'), yard -> yard.fold('i', row, 1, how));
            }
            Ranges.noSuchSize(CHECK, "fold of row " + row, () -> Yards.mixed('o'),
                    (yard, most) -> yard.fold('o', row, most, 's'));
            Ranges.noSuchSize(CHECK, "fold of nothing of the sort", () -> Yards.mixed('o'),
                    (yard, most) -> yard.fold('x', row, most, 'o'));
        }
    }

    // Promise 25.

    /** p(n) of the document's theorem. */
    private static int due(int many, int most) {
        return many <= most ? 1 : due(many / 2, most) + due(many - many / 2, most);
    }

    private static void piecesOfEachLength() {
        CHECK.of("25 pieces, as p() of the theorem, of an empty row to a full one, with most 1 to 48");
        for (int many = 0; many <= 48; many++) {
            for (char kind : KINDS) {
                Splityard yard = Yards.laid(kind, 1, many);
                for (int most = 1; most <= 48; most++) {
                    CHECK.same("pieces of " + many + " by " + most, due(many, most), yard.pieces(kind, 1, most));
                }
            }
        }
    }

    private static void piecesOfAnEmptyRow() {
        CHECK.of("25 pieces, one of an empty row, and of a row of one");
        for (char kind : KINDS) {
            for (int most : new int[] {1, 2, 47, 48}) {
                CHECK.leaves("pieces of none", 1, Yards::fresh, yard -> yard.pieces(kind, 0, most));
                CHECK.leaves("pieces of one", 1, () -> Yards.laid(kind, 0, 1), yard -> yard.pieces(kind, 0, most));
            }
        }
    }

    private static void piecesOneNumberMore() {
        CHECK.of("25 pieces, one of just so many numbers, two of a number more");
        for (char kind : KINDS) {
            for (int most = 1; most < 48; most++) {
                CHECK.same("of " + most, 1, Yards.laid(kind, 0, most).pieces(kind, 0, most));
                CHECK.same("of one more than " + most, 2, Yards.laid(kind, 0, most + 1).pieces(kind, 0, most));
            }
            CHECK.same("of 48 by 48", 1, Yards.laid(kind, 0, 48).pieces(kind, 0, 48));
            CHECK.same("of 48 by 1", 48, Yards.laid(kind, 0, 48).pieces(kind, 0, 1));
        }
    }

    private static void piecesChangesNothing() {
        CHECK.of("25 pieces, which splits nothing that others see");
        for (char kind : KINDS) {
            for (int most : new int[] {1, 2, 48}) {
                Splityard yard = Yards.mixed(kind);
                yard.pieces(kind, 1, most);
                CHECK.same("by " + most, Picture.of(Yards.mixed(kind)), Picture.of(yard));
            }
        }
    }

    private static void piecesKinds() {
        CHECK.of("25 pieces, IllegalArgumentException if there is no such kind");
        Ranges.noSuchKind(CHECK, "pieces", (yard, kind, row) -> yard.pieces(kind, row, 1));
        Ranges.noSuchKind(CHECK, "pieces by 48", (yard, kind, row) -> yard.pieces(kind, row, 48));
    }

    private static void piecesSizes() {
        CHECK.of("25 pieces, IllegalArgumentException if the number is out of range, 1 to 48");
        for (char kind : KINDS) {
            Ranges.noSuchSize(CHECK, "pieces", () -> Yards.mixed(kind), (yard, most) -> yard.pieces(kind, 1, most));
            Ranges.noSuchSize(CHECK, "pieces of none", () -> Yards.mixed(kind),
                    (yard, most) -> yard.pieces(kind, 0, most));
        }
    }

    private static void piecesRows() {
        CHECK.of("25 pieces, IndexOutOfBoundsException if there is no such row");
        Ranges.eachRow(CHECK, "pieces", 3, (yard, kind, row) -> yard.pieces(kind, row, 1));
        Ranges.noSuchRow(CHECK, "pieces", (yard, kind, row) -> yard.pieces(kind, row, 1));
    }

    private static void piecesFirstOfSeveral() {
        CHECK.of("25 pieces, the first of several exceptions");
        for (int row : Ranges.NO_ROWS) {
            Ranges.noSuchSize(CHECK, "pieces of row " + row, () -> Yards.mixed('o'),
                    (yard, most) -> yard.pieces('o', row, most));
        }
    }
}
