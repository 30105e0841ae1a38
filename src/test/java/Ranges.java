/** The arguments that many calls take alike, and those that they refuse alike, with the first ones beyond. */
final class Ranges {
    interface RowCall {
        Object answer(Splityard yard, char kind, int row);
    }

    interface BenchCall {
        Object answer(Splityard yard, int bench);
    }

    interface ItemCall {
        Object answer(Splityard yard, int bench, int item);
    }

    interface SizeCall {
        Object answer(Splityard yard, int most);
    }

    static final Class<IllegalArgumentException> ARGUMENT = IllegalArgumentException.class;
    static final Class<IndexOutOfBoundsException> INDEX = IndexOutOfBoundsException.class;
    static final Class<IllegalStateException> STATE = IllegalStateException.class;

    static final int[] NO_ROWS = {-1, 4, -2, 5, 12, Integer.MIN_VALUE, Integer.MAX_VALUE};
    static final int[] NO_BENCHES = {-1, 6, -2, 7, Integer.MIN_VALUE, Integer.MAX_VALUE};
    static final int[] NO_SIZES = {0, 49, -1, 50, Integer.MIN_VALUE, Integer.MAX_VALUE};
    private static final char[] NO_KINDS = {'h', 'j', 'k', 'm', 'n', 'p', 'I', 'L', 'O', ' ', (char) 0, (char) 65535};

    private Ranges() {
    }

    /** Kinds that are none, also where the row is none either: the kind is documented first. */
    static void noSuchKind(Check check, String name, RowCall call) {
        for (char kind : NO_KINDS) {
            for (int row : new int[] {0, 3, -1, 4}) {
                check.refused(name + " of the kind " + (int) kind + " and row " + row, ARGUMENT,
                        () -> Yards.mixed('l'), yard -> call.answer(yard, kind, row));
            }
        }
    }

    static void noSuchRow(Check check, String name, RowCall call) {
        for (char kind : Yards.KINDS) {
            for (int row : NO_ROWS) {
                check.refused(name + " of row " + kind + row, INDEX,
                        () -> Yards.mixed(kind), yard -> call.answer(yard, kind, row));
            }
        }
    }

    /** Asks the call of rows 0 to 3 of each kind, of which the call's own one alone is as long as due. */
    static void eachRow(Check check, String name, int due, RowCall call) {
        for (char kind : Yards.KINDS) {
            for (int row = 0; row < 4; row++) {
                Splityard yard = Yards.laid(kind, row, 3);
                check.same(name + " of row " + kind + row, due, call.answer(yard, kind, row));
            }
        }
    }

    static void noSuchBench(Check check, String name, BenchCall call) {
        for (int bench : NO_BENCHES) {
            check.refused(name + " of bench " + bench, INDEX,
                    () -> Yards.mixed('l'), yard -> call.answer(yard, bench));
        }
    }

    /** Asks the call of the benches 0 to 5, each of them opened as the only one, for three numbers. */
    static void eachBench(Check check, String name, Object due, BenchCall call) {
        for (int bench = 0; bench < 6; bench++) {
            Splityard yard = Yards.laid('l', 2, 3);
            yard.openAll(bench, 'l', 2);
            check.same(name + " of bench " + bench, due, call.answer(yard, bench));
        }
    }

    /** Items that are none: of a bench with seven, of one that lost its only one, and of one never opened. */
    static void noSuchItem(Check check, String name, ItemCall call) {
        for (int item : new int[] {-1, 7, -2, 8, 96, Integer.MIN_VALUE, Integer.MAX_VALUE}) {
            check.refused(name + " of item " + item, INDEX,
                    () -> Yards.mixed('i'), yard -> call.answer(yard, 3, item));
        }
        for (int item : new int[] {0, 1, -1}) {
            check.refused(name + " of item " + item + " of a bench that was swept", INDEX,
                    () -> Yards.read('i', 0), yard -> call.answer(yard, 0, item));
            check.refused(name + " of item " + item + " of a bench that was never opened", INDEX,
                    () -> Yards.mixed('i'), yard -> call.answer(yard, 0, item));
        }
    }

    static void noSuchBenchForItem(Check check, String name, ItemCall call) {
        for (int item : new int[] {0, 2, 7, -1}) {
            noSuchBench(check, name + " of item " + item, (yard, bench) -> call.answer(yard, bench, item));
        }
    }

    static void notOfANumber(Check check, String name, ItemCall call) {
        for (char kind : Yards.KINDS) {
            notOf(check, name + " of the first number", () -> Yards.mixed(kind), 3, 0, call);
            notOf(check, name + " of a number behind a piece", () -> Yards.mixed(kind), 3, 4, call);
            notOf(check, name + " of the last number", () -> Yards.read(kind, 48), 0, 47, call);
        }
    }

    static void notOfAPiece(Check check, String name, ItemCall call) {
        for (char kind : Yards.KINDS) {
            notOf(check, name + " of a piece behind numbers", () -> Yards.mixed(kind), 3, 6, call);
            notOf(check, name + " of a piece that was read", () -> Yards.mixed(kind), 3, 5, call);
            for (int many = 0; many <= 3; many++) {
                int left = many;
                notOf(check, name + " of a piece of " + many, () -> Yards.opened(kind, left), 0, 0, call);
            }
        }
    }

    static void notOfAnIterator(Check check, String name, ItemCall call) {
        for (char kind : Yards.ITERATED) {
            notOf(check, name + " of an iterator behind numbers", () -> Yards.mixed(kind), 3, 2, call);
            for (int many = 0; many <= 3; many++) {
                int left = many;
                notOf(check, name + " of an iterator of " + many, () -> Yards.iterated(kind, left), 0, 0, call);
            }
        }
    }

    private static void notOf(Check check, String name, Check.Recipe recipe, int bench, int item, ItemCall call) {
        check.refused(name, STATE, recipe, yard -> call.answer(yard, bench, item));
    }

    static void noSuchSize(Check check, String name, Check.Recipe recipe, SizeCall call) {
        for (int most : NO_SIZES) {
            check.refused(name + " with most " + most, ARGUMENT, recipe, yard -> call.answer(yard, most));
        }
    }
}
