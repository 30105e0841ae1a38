import java.io.IOException;
import java.nio.file.Path;
import java.util.Spliterator;

/** Promises 26 to 29, sentence by sentence: figures of the benches and of all. */
public final class FiguresTest {
    private static final Class<ArithmeticException> ARITHMETIC = ArithmeticException.class;
    private static final char[] KINDS = Yards.KINDS;
    private static final int[] SIZES = {1, 2, 3, 7};
    private static final Check CHECK = new Check("FiguresTest");

    public static void main(String[] args) throws IOException, ReflectiveOperationException {
        shareOfNoneToAll();
        shareOfAPart();
        shareWhateverWasSwept();
        shareOfAnEmptyPart();
        shareNeverOpened();
        shareBenches();
        meanLeftOfOneToAll();
        meanLeftCountsIteratorsAndEmptyOnes();
        meanLeftNoPiece();
        meanLeftBenches();
        checksumOfANewObject();
        checksumOfEachRow();
        checksumOfEachBench();
        checksumOfEachItem();
        checksumGoesRound();
        checksumInTurn();
        checksumChangesNothing();
        isSoundOfEmptyAndFull();
        isSoundWhateverTheRowBecame();
        isSoundChangesNothing();
        isSoundSeesAWrongNumber();
        isSoundSeesAWrongPiece();
        isSoundSeesEachBench();
        try (BrokenCopy copy = new BrokenCopy(Path.of(args[0]))) {
            isSoundSeesLackingCharacteristics(copy);
            isSoundSeesEachFold(copy);
            isSoundSeesAllPieces(copy);
        }
        CHECK.end();
    }

    // Promise 26.

    private static void shareOfNoneToAll() {
        CHECK.of("26 share, from none to all of the numbers, both converted to float");
        for (char kind : KINDS) {
            for (int many : new int[] {1, 2, 3, 7, 47, 48}) {
                Splityard yard = Yards.opened(kind, many);
                for (int given = 0; given < many; given++) {
                    CHECK.same(given + " of " + many, (float) given / (float) many, yard.share(0));
                    yard.step(0, given);
                }
                CHECK.same("all of " + many, 1.0f, yard.share(0));
            }
            CHECK.same("a third, as float", 0.33333334f, shareOfAThird(kind));
        }
    }

    private static float shareOfAThird(char kind) {
        Splityard yard = Yards.opened(kind, 3);
        yard.step(0, 0);
        return yard.share(0);
    }

    private static void shareOfAPart() {
        CHECK.of("26 share, of the numbers of the part, not of the row");
        for (char kind : KINDS) {
            CHECK.leaves("four of ten", 0.4f, () -> Yards.mixed(kind), yard -> yard.share(3));
            Splityard yard = Yards.opened(kind, 4);
            yard.drain(0, 0);
            yard.lay(kind, 0, 48, 0, 0);
            CHECK.same("of a row that grew", 1.0f, yard.share(0));
        }
    }

    private static void shareWhateverWasSwept() {
        CHECK.of("26 share, the pieces play no part");
        for (char kind : KINDS) {
            CHECK.same("with 48 empty pieces", 1.0f, Yards.mostItems(kind).share(0));
            CHECK.same("with none", 1.0f, Yards.read(kind, 48).share(0));
            Splityard yard = Yards.opened(kind, 4);
            yard.step(0, 0);
            yard.crumble(0, 1);
            CHECK.same("with three pieces left", 0.25f, yard.share(0));
        }
    }

    private static void shareOfAnEmptyPart() {
        CHECK.of("26 share, ArithmeticException if the part is empty");
        for (char kind : KINDS) {
            CHECK.refused("of an empty row", ARITHMETIC, () -> Yards.opened(kind, 0), yard -> yard.share(0));
            CHECK.refused("swept", ARITHMETIC, () -> Yards.read(kind, 0), yard -> yard.share(0));
            CHECK.refused("of a row with numbers", ARITHMETIC, () -> {
                Splityard yard = Yards.opened(kind, 5);
                yard.drain(0, 0);
                yard.open(0, kind, 0, 3, 3);
                return yard;
            }, yard -> yard.share(0));
            Splityard yard = Yards.opened(kind, 1);
            CHECK.same("a part of one isn't empty", 0.0f, yard.share(0));
        }
    }

    private static void shareNeverOpened() {
        CHECK.of("26 share, of a bench that was never opened, whose part is empty");
        for (int bench : new int[] {0, 1, 2, 4, 5}) {
            CHECK.refused("bench " + bench, ARITHMETIC, () -> Yards.mixed('i'), yard -> yard.share(bench));
        }
    }

    private static void shareBenches() {
        CHECK.of("26 share, IndexOutOfBoundsException if there is no such bench");
        Ranges.eachBench(CHECK, "share", 1.0f / 3.0f, (yard, bench) -> {
            yard.step(bench, 0);
            return yard.share(bench);
        });
        Ranges.noSuchBench(CHECK, "share", Splityard::share);
    }

    // Promise 27.

    private static void meanLeftOfOneToAll() {
        CHECK.of("27 meanLeft, of one piece to 48, both converted to double");
        for (char kind : KINDS) {
            for (int many : new int[] {1, 2, 3, 48}) {
                CHECK.leaves("one piece of " + many, (double) many, () -> Yards.opened(kind, many),
                        yard -> yard.meanLeft(0));
            }
            Splityard yard = Yards.opened(kind, 48);
            int pieces = 1;
            for (int item = 0; item < pieces;) {
                CHECK.same("of " + pieces + " pieces", 48.0 / (double) pieces, yard.meanLeft(0));
                if (yard.split(0, item) < 0) {
                    item++;
                } else {
                    pieces++;
                }
            }
            CHECK.same("of 48 pieces", 1.0, yard.meanLeft(0));
            Splityard three = Yards.opened(kind, 7);
            three.crumble(0, 3);
            three.drain(0, 1);
            CHECK.same("5 left in three", 5.0 / 3.0, three.meanLeft(0));
        }
    }

    private static void meanLeftCountsIteratorsAndEmptyOnes() {
        CHECK.of("27 meanLeft, iterators too, and pieces with none left");
        CHECK.leaves("6 left in three", 2.0, () -> Yards.mixed('l'), yard -> yard.meanLeft(3));
        CHECK.leaves("6 left in three of Integer", 2.0, () -> Yards.mixed('o'), yard -> yard.meanLeft(3));
        for (char kind : KINDS) {
            CHECK.leaves("an empty part", 0.0, () -> Yards.opened(kind, 0), yard -> yard.meanLeft(0));
            CHECK.same("48 empty pieces", 0.0, Yards.mostItems(kind).meanLeft(0));
        }
        for (char kind : Yards.ITERATED) {
            for (int many : new int[] {0, 1, 2, 48}) {
                CHECK.leaves("an iterator of " + many, (double) many, () -> Yards.iterated(kind, many),
                        yard -> yard.meanLeft(0));
            }
        }
    }

    private static void meanLeftNoPiece() {
        CHECK.of("27 meanLeft, ArithmeticException if it has no piece");
        for (char kind : KINDS) {
            for (int many : new int[] {0, 1, 48}) {
                CHECK.refused("read, of " + many, ARITHMETIC, () -> Yards.read(kind, many),
                        yard -> yard.meanLeft(0));
            }
            CHECK.refused("never opened", ARITHMETIC, () -> Yards.mixed(kind), yard -> yard.meanLeft(5));
        }
    }

    private static void meanLeftBenches() {
        CHECK.of("27 meanLeft, IndexOutOfBoundsException if there is no such bench");
        Ranges.eachBench(CHECK, "meanLeft", 3.0, Splityard::meanLeft);
        Ranges.noSuchBench(CHECK, "meanLeft", Splityard::meanLeft);
    }

    // Promise 28.

    private static long sum(long first, long... terms) {
        long sum = first;
        for (long term : terms) {
            sum = 31 * sum + term;
        }
        return sum;
    }

    /** The sum over an object of which one row, or one bench, has more than nothing: what there is stands for it. */
    private static long sumWithOne(int place, long... there) {
        long sum = 7;
        for (int other = 0; other < 18; other++) {
            sum = other == place ? sum(sum, there) : sum(sum, 0);
        }
        return sum;
    }

    private static void checksumOfANewObject() {
        CHECK.of("28 checksum, 7 at first; then 0 for each of 12 rows and of 6 benches");
        CHECK.leaves("of a new object", -5157943634608739257L, Yards::fresh, Splityard::checksum);
        CHECK.same("of a new object, reckoned", sumWithOne(-1), new Splityard().checksum());
    }

    private static void checksumOfEachRow() {
        CHECK.of("28 checksum, for the kinds i, l, o in turn, for each row, how many numbers, and each number");
        for (int kind = 0; kind < 3; kind++) {
            for (int row = 0; row < 4; row++) {
                Splityard yard = new Splityard();
                yard.lay(KINDS[kind], row, 3, 5, -8);
                CHECK.same("with row " + KINDS[kind] + row, sumWithOne(4 * kind + row, 3, 5, -3, -11),
                        yard.checksum());
                long[] there = new long[49];
                there[0] = 48;
                yard.lay(KINDS[kind], row, 48, 0, 0);
                CHECK.same("with a full row " + KINDS[kind] + row, sumWithOne(4 * kind + row, there),
                        yard.checksum());
            }
        }
    }

    private static void checksumOfEachBench() {
        CHECK.of("28 checksum, for each bench how many items");
        for (int bench = 0; bench < 6; bench++) {
            Splityard yard = new Splityard();
            yard.openAll(bench, 'l', 0);
            CHECK.same("with bench " + bench, sumWithOne(12 + bench, 1, 'p', 0), yard.checksum());
            yard.iterate(bench, 0);
            CHECK.same("with an iterator", sumWithOne(12 + bench, 1, 't', 0), yard.checksum());
            yard.sweep(bench);
            CHECK.same("swept", sumWithOne(-1), yard.checksum());
        }
    }

    private static void checksumOfEachItem() {
        CHECK.of("28 checksum, for each item the code of its kind, and the number, or how many are left");
        for (char kind : KINDS) {
            Splityard yard = Yards.mixed(kind);
            yard.lay(kind, 1, 0, 0, 0);
            long third = kind == 'o' ? 'p' : 't';
            CHECK.same("seven items", sumWithOne(15, 7, 'n', 2, 'n', 3, third, 2, 'n', 6, 'n', 7, 'p', 0, 'p', 4),
                    yard.checksum());
        }
    }

    private static void checksumGoesRound() {
        CHECK.of("28 checksum, a long that goes round");
        Splityard yard = new Splityard();
        yard.lay('l', 3, 2, Long.MAX_VALUE, 1);
        CHECK.same("of longs", sumWithOne(7, 2, Long.MAX_VALUE, Long.MIN_VALUE), yard.checksum());
        yard.openAll(5, 'l', 3);
        yard.drain(5, 0);
        yard.sweep(5);
        yard.lay('l', 3, 0, 0, 0);
        CHECK.same("of longs on a bench", sumWithOne(17, 2, 'n', Long.MAX_VALUE, 'n', Long.MIN_VALUE),
                yard.checksum());
        yard = new Splityard();
        yard.lay('o', 3, 2, Integer.MIN_VALUE, -1);
        CHECK.same("of ints, as longs", sumWithOne(11, 2, Integer.MIN_VALUE, Integer.MAX_VALUE), yard.checksum());
    }

    private static void checksumInTurn() {
        CHECK.of("28 checksum, rows of all kinds, then benches, in turn");
        Splityard yard = new Splityard();
        yard.lay('i', 0, 2, 5, -8);
        yard.lay('l', 3, 1, Long.MIN_VALUE, 0);
        yard.append('o', 1, 6);
        yard.openAll(1, 'i', 0);
        yard.step(1, 0);
        yard.openAll(4, 'l', 3);
        yard.iterate(4, 0);
        yard.openAll(5, 'o', 0);
        long due = sum(7, 2, 5, -3, 0, 0, 0);
        due = sum(due, 0, 0, 0, 1, Long.MIN_VALUE);
        due = sum(due, 0, 1, 6, 0, 0);
        due = sum(due, 0, 2, 'n', 5, 'p', 1, 0, 0, 1, 't', 1, 1, 'p', 0);
        CHECK.same("over all", due, yard.checksum());
    }

    private static void checksumChangesNothing() {
        CHECK.of("28 checksum, which changes nothing");
        for (char kind : KINDS) {
            long due = Yards.mixed(kind).checksum();
            CHECK.leaves("of " + kind, due, () -> Yards.mixed(kind), Splityard::checksum);
        }
    }

    // Promise 29.

    private static Splityard allRowsFull() {
        Splityard yard = new Splityard();
        for (int row = 0; row < 4; row++) {
            yard.lay('i', row, 48, Integer.MAX_VALUE, -row);
            yard.lay('l', row, 48, Long.MAX_VALUE, row);
            yard.lay('o', row, 48, Integer.MIN_VALUE, row * 1000003);
        }
        return yard;
    }

    private static void isSoundOfEmptyAndFull() {
        CHECK.of("29 isSound, of a new object, of empty and full rows and benches, and of what is between");
        CHECK.leaves("a new object", true, Yards::fresh, Splityard::isSound);
        CHECK.same("full rows", true, allRowsFull().isSound());
        for (char kind : KINDS) {
            for (int many = 0; many <= 48; many++) {
                CHECK.same("a row of " + many, true, Yards.laid(kind, 2, many).isSound());
            }
            CHECK.leaves("an empty part", true, () -> Yards.opened(kind, 0), Splityard::isSound);
            CHECK.leaves("an empty part, swept", true, () -> Yards.read(kind, 0), Splityard::isSound);
            CHECK.leaves("48 unread", true, () -> Yards.opened(kind, 48), Splityard::isSound);
            CHECK.leaves("48 read", true, () -> Yards.read(kind, 48), Splityard::isSound);
            CHECK.same("96 items", true, Yards.mostItems(kind).isSound());
        }
        for (char kind : Yards.ITERATED) {
            CHECK.leaves("an iterator", true, () -> Yards.iterated(kind, 48), Splityard::isSound);
            CHECK.leaves("an empty iterator", true, () -> Yards.iterated(kind, 0), Splityard::isSound);
        }
    }

    private static void isSoundWhateverTheRowBecame() {
        CHECK.of("29 isSound, of benches whose rows were changed");
        for (char kind : KINDS) {
            CHECK.leaves("half read", true, () -> Yards.mixed(kind), Splityard::isSound);
            for (int many : new int[] {0, 1, 48}) {
                Splityard yard = Yards.read(kind, 3);
                yard.lay(kind, 0, many, -77, -1);
                CHECK.same("read, of a row that has " + many + " now", true, yard.isSound());
            }
        }
    }

    private static void isSoundChangesNothing() {
        CHECK.of("29 isSound, nothing is changed by that");
        for (char kind : KINDS) {
            Splityard yard = Yards.mixed(kind);
            yard.isSound();
            Splityard other = Yards.mixed(kind);
            CHECK.same("crumble", other.crumble(3, 1), yard.crumble(3, 1));
            CHECK.same("append", other.append(kind, 1, 9), yard.append(kind, 1, 9));
            CHECK.same("all answers", Picture.of(other), Picture.of(yard));
        }
    }

    /** No call makes an unsound bench, so the fields are reached past the face. */
    private static void isSoundSeesAWrongNumber() throws ReflectiveOperationException {
        CHECK.of("29 isSound, each number that was given is that of the part at the place that ahead() tells");
        CHECK.same("another number", false, withFault(0, "numbers", 0, 99).isSound());
        CHECK.same("a number too many", false, withFault(0, "whats", 2, 'n').isSound());
        CHECK.same("as it was", true, withFault(0, "numbers", 0, 1).isSound());
    }

    private static void isSoundSeesAWrongPiece() throws ReflectiveOperationException {
        CHECK.of("29 isSound, given and left ones are together as many as the part has");
        CHECK.same("too few left", false, withFault(0, "ends", 2, 3).isSound());
        CHECK.same("too many left", false, withFault(0, "ends", 2, 5).isSound());
        CHECK.same("a piece at a wrong place", false, withFault(0, "nexts", 1, 2).isSound());
        CHECK.same("as it was", true, withFault(0, "ends", 2, 4).isSound());
        Splityard moved = withFault(0, "nexts", 1, 2);
        Faults.set(moved, 0, "ends", 1, 3);
        CHECK.same("a piece of the right size at a wrong place", false, moved.isSound());
    }

    private static void isSoundSeesEachBench() throws ReflectiveOperationException {
        CHECK.of("29 isSound, of each bench");
        for (int bench = 0; bench < 6; bench++) {
            CHECK.same("bench " + bench, false, withFault(bench, "numbers", 0, 99).isSound());
        }
    }

    private static void isSoundSeesLackingCharacteristics(BrokenCopy copy) throws ReflectiveOperationException {
        CHECK.of("29 isSound, each piece that is no iterator has its characteristics and is exact");
        int[] four = {Spliterator.ORDERED, Spliterator.SIZED, Spliterator.SUBSIZED, Spliterator.IMMUTABLE};
        for (int bench = 0; bench < 6; bench++) {
            for (int lacking : four) {
                Object yard = copy.make();
                copy.call(yard, "lay", 'l', 0, 2, 5L, 1L);
                copy.call(yard, "openAll", bench, 'l', 0);
                CHECK.same("a piece", false, copy.isSoundWith(BrokenCopy.LACKING, lacking, yard));
                CHECK.same("a piece as it was", true, copy.call(yard, "isSound"));
                copy.call(yard, "step", bench, 0);
                CHECK.same("a piece behind a number", false, copy.isSoundWith(BrokenCopy.LACKING, lacking, yard));
                copy.call(yard, "iterate", bench, 1);
                CHECK.same("an iterator, which has none", true, copy.isSoundWith(BrokenCopy.LACKING, lacking, yard));
            }
        }
    }

    private static void isSoundSeesEachFold(BrokenCopy copy) throws ReflectiveOperationException {
        CHECK.of("29 isSound, of each row, for pieces of at most 1, 2, 3, and 7, that each fold() is the row's");
        for (int most : SIZES) {
            for (char how : new char[] {'s', 'x', 'h', 'f'}) {
                isSoundSeesEachRow(copy, most, BrokenCopy.WRONG_FOLD, BrokenCopy.fold(most, how));
            }
        }
    }

    private static void isSoundSeesAllPieces(BrokenCopy copy) throws ReflectiveOperationException {
        CHECK.of("29 isSound, of each row, for pieces of at most 1, 2, 3, and 7, that pieces() is p() of the theorem");
        for (int most : SIZES) {
            isSoundSeesEachRow(copy, most, BrokenCopy.WRONG_PIECES, most);
        }
    }

    /** Of rows that are split just once, so that a joining that is wrong by 1 can't be made good by another one. */
    private static void isSoundSeesEachRow(BrokenCopy copy, int most, String property, int fault)
            throws ReflectiveOperationException {
        CHECK.same("empty rows by " + most, true, copy.isSoundWith(property, fault, copy.make()));
        for (char kind : KINDS) {
            for (int row = 0; row < 4; row++) {
                Object yard = copy.make();
                copy.call(yard, "lay", kind, row, most + 1, 5L, -3L);
                String name = "row " + kind + row + " by " + most;
                CHECK.same(name, false, copy.isSoundWith(property, fault, yard));
                CHECK.same(name + " as it was", true, copy.call(yard, "isSound"));
            }
        }
    }

    /** A bench of four numbers, as a number, a piece of 1 and a piece of 2, with one value set otherwise. */
    private static Splityard withFault(int bench, String field, int item, int value)
            throws ReflectiveOperationException {
        Splityard yard = Yards.laid('i', 0, 4);
        yard.openAll(bench, 'i', 0);
        yard.step(bench, 0);
        yard.split(bench, 1);
        Faults.set(yard, bench, field, item, value);
        return yard;
    }
}
