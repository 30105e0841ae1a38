/** Promises 1 to 6, sentence by sentence: a new object, and its rows. */
public final class RowsTest {
    private static final char[] KINDS = Yards.KINDS;
    private static final char[] OF_INTS = {'i', 'o'};
    private static final long LEAST_INT = Integer.MIN_VALUE;
    private static final long GREATEST_INT = Integer.MAX_VALUE;
    private static final int[] LENGTHS = {0, 1, 2, 3, 47, 48};
    private static final Check CHECK = new Check("RowsTest");

    public static void main(String[] args) {
        newRowsAreEmpty();
        newBenchesWereNeverOpened();
        newObjectsShareNothing();
        appendPutsBehind();
        appendKinds();
        appendRows();
        appendLeastAndGreatestNumber();
        appendNumbersBeyond();
        appendToARowOf48();
        appendFirstOfSeveral();
        layEvenSteps();
        layKinds();
        layRows();
        layHowMany();
        layOneOrNoneTakesNoStep();
        layLongsGoRound();
        layIntsGoRound();
        layFirstBeyondInt();
        layHowManyItHad();
        layFirstOfSeveral();
        turnAbout();
        turnKinds();
        turnRows();
        lengthOfEmptyAndFull();
        lengthKinds();
        lengthRows();
        numberAtEachPlace();
        numberKinds();
        numberRows();
        numberPlacesBeyond();
        numberPlaceThatWent();
        CHECK.end();
    }

    // Promise 1.

    private static void newRowsAreEmpty() {
        CHECK.of("1 a new object, empty rows");
        Splityard yard = new Splityard();
        for (char kind : KINDS) {
            for (int row = 0; row < 4; row++) {
                CHECK.same("length " + kind + row, 0, yard.length(kind, row));
            }
        }
    }

    private static void newBenchesWereNeverOpened() {
        CHECK.of("1 a new object, benches that were never opened");
        Splityard yard = new Splityard();
        for (int bench = 0; bench < 6; bench++) {
            int asked = bench;
            CHECK.same("items " + bench, 0, yard.items(bench));
            CHECK.same("isRead " + bench, true, yard.isRead(bench));
            CHECK.same("share " + bench, "throws java.lang.ArithmeticException",
                    Check.answer(yard, made -> made.share(asked)));
        }
    }

    private static void newObjectsShareNothing() {
        CHECK.of("1 a new object, whatever became of another one");
        Splityard other = Yards.mixed('l');
        other.append('i', 0, 5);
        CHECK.same("what a new one answers", Picture.of(Yards.fresh()), Picture.of(new Splityard()));
        CHECK.same("its checksum", -5157943634608739257L, new Splityard().checksum());
        CHECK.same("what the other one has", 1, other.length('i', 0));
    }

    // Promise 2.

    private static void appendPutsBehind() {
        CHECK.of("2 append, behind a row, returns how many it has then");
        for (char kind : KINDS) {
            Splityard yard = new Splityard();
            CHECK.same("to an empty row", 1, yard.append(kind, 3, -5));
            CHECK.same("to a row of one", 2, yard.append(kind, 3, 4));
            CHECK.same("to a row of two", 3, yard.append(kind, 3, -5));
            CHECK.same("the row", "-5 4 -5", Picture.row(yard, kind, 3));
            yard.lay(kind, 3, 2, 8, 1);
            CHECK.same("to a row that was laid", 3, yard.append(kind, 3, 0));
            CHECK.same("that row", "8 9 0", Picture.row(yard, kind, 3));
            yard.lay(kind, 3, 0, 8, 1);
            CHECK.same("to a row that was emptied", 1, yard.append(kind, 3, 6));
            CHECK.same("the row from new", "6", Picture.row(yard, kind, 3));
        }
    }

    private static void appendKinds() {
        CHECK.of("2 append, IllegalArgumentException if there is no such kind");
        Ranges.noSuchKind(CHECK, "append", (yard, kind, row) -> yard.append(kind, row, 0));
    }

    private static void appendRows() {
        CHECK.of("2 append, IndexOutOfBoundsException if there is no such row");
        Ranges.eachRow(CHECK, "append", 4, (yard, kind, row) -> yard.append(kind, row, 0));
        Ranges.noSuchRow(CHECK, "append", (yard, kind, row) -> yard.append(kind, row, 0));
    }

    private static void appendLeastAndGreatestNumber() {
        CHECK.of("2 append, the least and the greatest number of each kind");
        Splityard yard = new Splityard();
        CHECK.same("the least long", 1, yard.append('l', 1, Long.MIN_VALUE));
        CHECK.same("the greatest long", 2, yard.append('l', 1, Long.MAX_VALUE));
        CHECK.same("longs", "-9223372036854775808 9223372036854775807", Picture.row(yard, 'l', 1));
        for (char kind : OF_INTS) {
            CHECK.same("the least int " + kind, 1, yard.append(kind, 1, LEAST_INT));
            CHECK.same("the greatest int " + kind, 2, yard.append(kind, 1, GREATEST_INT));
            CHECK.same("ints " + kind, "-2147483648 2147483647", Picture.row(yard, kind, 1));
        }
        yard.append('l', 0, LEAST_INT - 1);
        yard.append('l', 0, GREATEST_INT + 1);
        CHECK.same("longs that are no ints", "-2147483649 2147483648", Picture.row(yard, 'l', 0));
    }

    private static void appendNumbersBeyond() {
        CHECK.of("2 append, IllegalArgumentException if this is no number of the kind");
        long[] beyond = {LEAST_INT - 1, GREATEST_INT + 1, 1L << 32, -1L << 32, (1L << 32) + 5, Long.MIN_VALUE,
            Long.MAX_VALUE};
        for (char kind : OF_INTS) {
            for (long number : beyond) {
                CHECK.refused("append " + number + " to " + kind, Ranges.ARGUMENT,
                        () -> Yards.mixed(kind), yard -> yard.append(kind, 1, number));
            }
        }
    }

    private static void appendToARowOf48() {
        CHECK.of("2 append, IllegalStateException if the row has 48");
        for (char kind : KINDS) {
            Splityard yard = Yards.laid(kind, 2, 47);
            CHECK.same("the 48th", 48, yard.append(kind, 2, -9));
            CHECK.same("it stands last", -9L, yard.number(kind, 2, 47));
            CHECK.refused("a 49th of " + kind, Ranges.STATE,
                    () -> Yards.laid(kind, 2, 48), full -> full.append(kind, 2, 49));
            CHECK.same("to the row beside", 1, yard.append(kind, 3, 0));
        }
    }

    private static void appendFirstOfSeveral() {
        CHECK.of("2 append, the first of several exceptions");
        for (char kind : OF_INTS) {
            for (int row : Ranges.NO_ROWS) {
                CHECK.refused("no number of the kind, to no row " + row, Ranges.ARGUMENT,
                        () -> Yards.mixed(kind), yard -> yard.append(kind, row, GREATEST_INT + 1));
            }
            CHECK.refused("no number of the kind, to a full row", Ranges.ARGUMENT,
                    () -> Yards.laid(kind, 0, 48), yard -> yard.append(kind, 0, LEAST_INT - 1));
        }
    }

    // Promise 3.

    private static void layEvenSteps() {
        CHECK.of("3 lay, numbers in even steps");
        for (char kind : KINDS) {
            Splityard yard = new Splityard();
            yard.lay(kind, 1, 4, 10, -7);
            CHECK.same("down", "10 3 -4 -11", Picture.row(yard, kind, 1));
            yard.lay(kind, 1, 3, -2, 5);
            CHECK.same("up, over a longer row", "-2 3 8", Picture.row(yard, kind, 1));
            yard.lay(kind, 1, 3, 6, 0);
            CHECK.same("by no step", "6 6 6", Picture.row(yard, kind, 1));
        }
    }

    private static void layKinds() {
        CHECK.of("3 lay, IllegalArgumentException if there is no such kind");
        Ranges.noSuchKind(CHECK, "lay", (yard, kind, row) -> yard.lay(kind, row, 2, 0, 1));
    }

    private static void layRows() {
        CHECK.of("3 lay, IndexOutOfBoundsException if there is no such row");
        Ranges.eachRow(CHECK, "lay", 3, (yard, kind, row) -> yard.lay(kind, row, 2, 0, 1));
        Ranges.noSuchRow(CHECK, "lay", (yard, kind, row) -> yard.lay(kind, row, 2, 0, 1));
    }

    private static void layHowMany() {
        CHECK.of("3 lay, many from 0 to 48, IllegalArgumentException if it is out of range");
        for (char kind : KINDS) {
            for (int many : LENGTHS) {
                Splityard yard = Yards.laid(kind, 0, 5);
                CHECK.same("lay " + many, 5, yard.lay(kind, 0, many, 70, 2));
                CHECK.same("its length", many, yard.length(kind, 0));
                CHECK.same("the sum of its numbers", 70L * many + (long) many * (many - 1),
                        yard.fold(kind, 0, 48, 's'));
            }
            for (int many : new int[] {-1, 49, -2, 50, Integer.MIN_VALUE, Integer.MAX_VALUE}) {
                CHECK.refused("lay " + many, Ranges.ARGUMENT,
                        () -> Yards.mixed(kind), yard -> yard.lay(kind, 1, many, 0, 1));
            }
        }
    }

    private static void layOneOrNoneTakesNoStep() {
        CHECK.of("3 lay, the first one, whatever the step");
        for (char kind : KINDS) {
            Splityard yard = new Splityard();
            yard.lay(kind, 0, 1, -8, Long.MIN_VALUE);
            CHECK.same("lay one", "-8", Picture.row(yard, kind, 0));
            yard.lay(kind, 0, 0, Long.MAX_VALUE, Long.MAX_VALUE);
            CHECK.same("lay none", "", Picture.row(yard, kind, 0));
        }
    }

    private static void layLongsGoRound() {
        CHECK.of("3 lay, numbers of l go round as those of long");
        Splityard yard = new Splityard();
        yard.lay('l', 0, 3, Long.MAX_VALUE - 1, 1);
        CHECK.same("up", "9223372036854775806 9223372036854775807 -9223372036854775808", Picture.row(yard, 'l', 0));
        yard.lay('l', 0, 3, Long.MIN_VALUE + 1, -1);
        CHECK.same("down", "-9223372036854775807 -9223372036854775808 9223372036854775807",
                Picture.row(yard, 'l', 0));
        yard.lay('l', 0, 3, 1, Long.MIN_VALUE);
        CHECK.same("by the least step", "1 -9223372036854775807 1", Picture.row(yard, 'l', 0));
        yard.lay('l', 0, 3, GREATEST_INT, 1);
        CHECK.same("not as those of int", "2147483647 2147483648 2147483649", Picture.row(yard, 'l', 0));
    }

    private static void layIntsGoRound() {
        CHECK.of("3 lay, numbers of i and o go round as those of int");
        for (char kind : OF_INTS) {
            Splityard yard = new Splityard();
            yard.lay(kind, 0, 3, GREATEST_INT - 1, 1);
            CHECK.same("up " + kind, "2147483646 2147483647 -2147483648", Picture.row(yard, kind, 0));
            yard.lay(kind, 0, 3, LEAST_INT + 1, -1);
            CHECK.same("down " + kind, "-2147483647 -2147483648 2147483647", Picture.row(yard, kind, 0));
            yard.lay(kind, 0, 3, 5, (1L << 32) + 2);
            CHECK.same("by a step beyond int " + kind, "5 7 9", Picture.row(yard, kind, 0));
            yard.lay(kind, 0, 3, 5, Long.MAX_VALUE);
            CHECK.same("by the greatest step " + kind, "5 4 3", Picture.row(yard, kind, 0));
            yard.lay(kind, 0, 48, 0, 1 << 30);
            CHECK.same("to the last one " + kind, -1L << 30, yard.number(kind, 0, 47));
            CHECK.same("to the last but one " + kind, LEAST_INT, yard.number(kind, 0, 46));
        }
    }

    private static void layFirstBeyondInt() {
        CHECK.of("3 lay, a first number beyond int goes round, too, as no exception is documented for it");
        for (char kind : OF_INTS) {
            Splityard yard = new Splityard();
            yard.lay(kind, 0, 2, GREATEST_INT + 1, 1);
            CHECK.same("above " + kind, "-2147483648 -2147483647", Picture.row(yard, kind, 0));
            yard.lay(kind, 0, 2, LEAST_INT - 1, 1);
            CHECK.same("below " + kind, "2147483647 -2147483648", Picture.row(yard, kind, 0));
        }
    }

    private static void layHowManyItHad() {
        CHECK.of("3 lay, returns how many the row had");
        for (char kind : KINDS) {
            for (int had : LENGTHS) {
                CHECK.same("lay over " + had, had, Yards.laid(kind, 0, had).lay(kind, 0, 7, 0, 0));
            }
        }
    }

    private static void layFirstOfSeveral() {
        CHECK.of("3 lay, the first of several exceptions");
        for (int row : Ranges.NO_ROWS) {
            CHECK.refused("49 to no row " + row, Ranges.ARGUMENT,
                    () -> Yards.mixed('i'), yard -> yard.lay('i', row, 49, 0, 0));
            CHECK.refused("-1 to no row " + row, Ranges.ARGUMENT,
                    () -> Yards.mixed('o'), yard -> yard.lay('o', row, -1, 0, 0));
        }
    }

    // Promise 4.

    private static void turnAbout() {
        CHECK.of("4 turn, an empty row, a full one, and what is between");
        for (char kind : KINDS) {
            for (int many : LENGTHS) {
                Splityard yard = Yards.laid(kind, 2, many);
                CHECK.same("turn " + many, many, yard.turn(kind, 2));
                Splityard due = new Splityard();
                due.lay(kind, 2, many, many, -1);
                CHECK.same("turned " + many, Picture.row(due, kind, 2), Picture.row(yard, kind, 2));
                yard.turn(kind, 2);
                CHECK.same("turned twice", Picture.row(Yards.laid(kind, 2, many), kind, 2),
                        Picture.row(yard, kind, 2));
            }
        }
    }

    private static void turnKinds() {
        CHECK.of("4 turn, IllegalArgumentException if there is no such kind");
        Ranges.noSuchKind(CHECK, "turn", Splityard::turn);
    }

    private static void turnRows() {
        CHECK.of("4 turn, IndexOutOfBoundsException if there is no such row");
        Ranges.eachRow(CHECK, "turn", 3, Splityard::turn);
        Ranges.noSuchRow(CHECK, "turn", Splityard::turn);
    }

    // Promise 5.

    private static void lengthOfEmptyAndFull() {
        CHECK.of("5 length, of an empty row, of a full one, and of what is between");
        for (char kind : KINDS) {
            for (int many : LENGTHS) {
                CHECK.leaves("length of " + many, many, () -> Yards.laid(kind, 1, many), yard -> yard.length(kind, 1));
                CHECK.same("the row beside", 0, Yards.laid(kind, 1, many).length(kind, 2));
            }
        }
    }

    private static void lengthKinds() {
        CHECK.of("5 length, IllegalArgumentException if there is no such kind");
        Ranges.noSuchKind(CHECK, "length", Splityard::length);
    }

    private static void lengthRows() {
        CHECK.of("5 length, IndexOutOfBoundsException if there is no such row");
        Ranges.eachRow(CHECK, "length", 3, Splityard::length);
        Ranges.noSuchRow(CHECK, "length", Splityard::length);
    }

    // Promise 6.

    private static void numberAtEachPlace() {
        CHECK.of("6 number, place from 0");
        for (char kind : KINDS) {
            Splityard yard = Yards.laid(kind, 0, 48);
            for (int place = 0; place < 48; place++) {
                CHECK.same("number " + place, place + 1L, yard.number(kind, 0, place));
            }
            CHECK.leaves("the first of 48", 1L, () -> Yards.laid(kind, 0, 48), full -> full.number(kind, 0, 0));
            CHECK.leaves("the last of 48", 48L, () -> Yards.laid(kind, 0, 48), full -> full.number(kind, 0, 47));
            CHECK.leaves("the only one", 1L, () -> Yards.laid(kind, 0, 1), one -> one.number(kind, 0, 0));
        }
    }

    private static void numberKinds() {
        CHECK.of("6 number, IllegalArgumentException if there is no such kind");
        Ranges.noSuchKind(CHECK, "number 0", (yard, kind, row) -> yard.number(kind, row, 0));
        Ranges.noSuchKind(CHECK, "number -1", (yard, kind, row) -> yard.number(kind, row, -1));
        Ranges.noSuchKind(CHECK, "number 48", (yard, kind, row) -> yard.number(kind, row, 48));
    }

    private static void numberRows() {
        CHECK.of("6 number, IndexOutOfBoundsException if there is no such row");
        for (char kind : KINDS) {
            for (int row = 0; row < 4; row++) {
                CHECK.same("number of " + kind + row, 3L, Yards.laid(kind, row, 3).number(kind, row, 2));
            }
        }
        Ranges.noSuchRow(CHECK, "number", (yard, kind, row) -> yard.number(kind, row, 0));
    }

    private static void numberPlacesBeyond() {
        CHECK.of("6 number, IndexOutOfBoundsException if there is no such place");
        for (char kind : KINDS) {
            for (int many : LENGTHS) {
                for (int place : new int[] {-1, many, many + 1, 49, Integer.MIN_VALUE, Integer.MAX_VALUE}) {
                    CHECK.refused("number " + place + " of " + many, Ranges.INDEX,
                            () -> Yards.laid(kind, 3, many), yard -> yard.number(kind, 3, place));
                }
            }
        }
    }

    private static void numberPlaceThatWent() {
        CHECK.of("6 number, no place that a row has no longer");
        for (char kind : KINDS) {
            for (int left : new int[] {0, 1, 2}) {
                Check.Recipe shortened = () -> {
                    Splityard yard = Yards.laid(kind, 0, 9);
                    yard.lay(kind, 0, left, 1, 1);
                    return yard;
                };
                CHECK.refused("number " + left, Ranges.INDEX, shortened, yard -> yard.number(kind, 0, left));
                CHECK.refused("number 8", Ranges.INDEX, shortened, yard -> yard.number(kind, 0, 8));
            }
        }
    }
}
