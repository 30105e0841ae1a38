/** Promises 7 to 15, sentence by sentence: benches, and what they tell of their items. */
public final class BenchesTest {
    private static final char[] KINDS = Yards.KINDS;
    private static final int[] LENGTHS = {0, 1, 2, 3, 47, 48};
    private static final char[] CHARACTERISTICS = {'o', 's', 'u', 'i', 'a'};
    private static final char[] NO_CHARACTERISTICS = {'n', 'p', 't', 'v', 'h', 'j', 'b', 'O', 'A', ' ', (char) 0,
        (char) 65535};
    private static final Check CHECK = new Check("BenchesTest");

    public static void main(String[] args) {
        openEachPart();
        openEmptyPart();
        openWhatWasOnItIsGone();
        openAnotherKind();
        openKinds();
        openBenches();
        openRows();
        openFromBelow0();
        openFromAboveTo();
        openToAboveTheRow();
        openRefusedForAnotherKind();
        openAllOfEmptyAndFull();
        openAllWhatWasOnItIsGone();
        openAllKinds();
        openAllBenches();
        openAllRows();
        itemsFewestAndMost();
        itemsBenches();
        kindOfEach();
        kindOfNoBenchOrItem();
        givenLeastAndGreatest();
        givenNoBenchOrItem();
        givenOfPieces();
        leftNoneOneTwoAndAll();
        leftNoBenchOrItem();
        leftOfANumber();
        aheadOfFirstAndLast();
        aheadCountsGivenAndLeft();
        aheadCountsFromThePartOn();
        aheadNoBenchOrItem();
        hasAlways();
        hasNoBenchOrItem();
        hasOfNumbersAndIterators();
        hasNothingSuch();
        hasFirstOfSeveral();
        isExactAlways();
        isExactNoBenchOrItem();
        isExactOfNumbersAndIterators();
        CHECK.end();
    }

    // Promise 7.

    private static void openEachPart() {
        CHECK.of("7 open, each part of a row, from the place of its first number to the place behind its last one");
        for (char kind : KINDS) {
            for (int from : LENGTHS) {
                for (int to : LENGTHS) {
                    if (from <= to) {
                        Splityard yard = Yards.laid(kind, 3, 48);
                        CHECK.same("open " + from + " to " + to, to - from, yard.open(5, kind, 3, from, to));
                        CHECK.same("the items of " + from + " to " + to, "p" + (to - from), Picture.bench(yard, 5));
                        CHECK.same("the numbers of " + from + " to " + to, numbers(from + 1, to),
                                Picture.drained(yard, 5));
                    }
                }
            }
        }
    }

    /** As a bench shows them that was read. */
    private static String numbers(int first, int last) {
        StringBuilder shown = new StringBuilder();
        for (int number = first; number <= last; number++) {
            shown.append(number == first ? "n" : " n").append(number);
        }
        return shown.toString();
    }

    private static void openEmptyPart() {
        CHECK.of("7 open, an empty part at each place, and of an empty row");
        for (char kind : KINDS) {
            for (int many : LENGTHS) {
                for (int place = 0; place <= many; place++) {
                    Splityard yard = Yards.laid(kind, 0, many);
                    CHECK.same("open nothing at " + place + " of " + many, 0, yard.open(0, kind, 0, place, place));
                    CHECK.same("its items", "p0", Picture.bench(yard, 0));
                }
            }
        }
    }

    private static void openWhatWasOnItIsGone() {
        CHECK.of("7 open, what was on it is gone");
        for (char kind : KINDS) {
            for (Splityard yard : usedBenches(kind)) {
                yard.open(0, kind, 0, 46, 48);
                CHECK.same("its items", "p2", Picture.bench(yard, 0));
                CHECK.same("its share", 0.0f, yard.share(0));
                CHECK.same("its numbers", "n47 n48", Picture.drained(yard, 0));
                yard.open(0, kind, 0, 3, 3);
                CHECK.same("its only piece, of no numbers", "p0", Picture.bench(yard, 0));
            }
        }
        Splityard yard = Yards.iterated('l', 5);
        yard.open(0, 'l', 0, 0, 5);
        CHECK.same("an iterator is gone, too", "p5", Picture.bench(yard, 0));
        CHECK.same("isSound", true, yard.isSound());
    }

    /** Of 48 numbers each: with numbers and empty pieces, with numbers alone, with a piece alone. */
    private static Splityard[] usedBenches(char kind) {
        return new Splityard[] {Yards.mostItems(kind), Yards.read(kind, 48), Yards.opened(kind, 48)};
    }

    private static void openAnotherKind() {
        CHECK.of("7 open, for a row of another kind");
        Splityard yard = Yards.opened('o', 3);
        yard.lay('i', 2, 3, 7, 0);
        yard.open(0, 'i', 2, 0, 2);
        CHECK.same("a piece of int can be an iterator", 2, yard.iterate(0, 0));
        yard.open(0, 'o', 0, 0, 3);
        CHECK.same("a piece of Integer can't", "throws java.lang.UnsupportedOperationException",
                Check.answer(yard, made -> made.iterate(0, 0)));
    }

    private static void openKinds() {
        CHECK.of("7 open, IllegalArgumentException if there is no such kind");
        Ranges.noSuchKind(CHECK, "open", (yard, kind, row) -> yard.open(3, kind, row, 0, 0));
        Ranges.noSuchKind(CHECK, "open bench 6", (yard, kind, row) -> yard.open(6, kind, row, 0, 0));
        Ranges.noSuchKind(CHECK, "open bench -1", (yard, kind, row) -> yard.open(-1, kind, row, 0, 0));
        Ranges.noSuchKind(CHECK, "open from -1", (yard, kind, row) -> yard.open(3, kind, row, -1, 0));
        Ranges.noSuchKind(CHECK, "open 2 to 1", (yard, kind, row) -> yard.open(3, kind, row, 2, 1));
        Ranges.noSuchKind(CHECK, "open to 49", (yard, kind, row) -> yard.open(3, kind, row, 0, 49));
    }

    private static void openBenches() {
        CHECK.of("7 open, IndexOutOfBoundsException if there is no such bench");
        Ranges.eachBench(CHECK, "open", 2, (yard, bench) -> yard.open(bench, 'l', 2, 1, 3));
        Ranges.eachBench(CHECK, "items behind open", 1, (yard, bench) -> {
            yard.step(bench, 0);
            yard.open(bench, 'l', 2, 1, 3);
            return yard.items(bench);
        });
        Ranges.noSuchBench(CHECK, "open", (yard, bench) -> yard.open(bench, 'l', 1, 0, 1));
    }

    private static void openRows() {
        CHECK.of("7 open, IndexOutOfBoundsException if there is no such row");
        Ranges.eachRow(CHECK, "open", 3, (yard, kind, row) -> yard.open(0, kind, row, 0, 3));
        Ranges.noSuchRow(CHECK, "open", (yard, kind, row) -> yard.open(3, kind, row, 0, 0));
    }

    private static void openFromBelow0() {
        CHECK.of("7 open, IndexOutOfBoundsException if from is below 0");
        for (char kind : KINDS) {
            for (int from : new int[] {-1, -2, -48, Integer.MIN_VALUE}) {
                for (int to : new int[] {from, -1, 0, 1, 5}) {
                    refusesPart(kind, from, to);
                }
            }
        }
    }

    private static void refusesPart(char kind, int from, int to) {
        CHECK.refused("open " + from + " to " + to + " of 5", Ranges.INDEX,
                () -> Yards.mixed(kind), yard -> yard.open(3, kind, 1, from, to));
    }

    private static void openFromAboveTo() {
        CHECK.of("7 open, IndexOutOfBoundsException if from is above to");
        for (char kind : KINDS) {
            for (int to = 0; to < 5; to++) {
                refusesPart(kind, to + 1, to);
                refusesPart(kind, 5, to);
                refusesPart(kind, Integer.MAX_VALUE, to);
            }
            refusesPart(kind, 0, -1);
            refusesPart(kind, 0, Integer.MIN_VALUE);
            refusesPart(kind, Integer.MAX_VALUE, Integer.MIN_VALUE);
        }
    }

    private static void openToAboveTheRow() {
        CHECK.of("7 open, IndexOutOfBoundsException if to is above how many the row has");
        for (char kind : KINDS) {
            for (int to : new int[] {6, 7, 48, 49, Integer.MAX_VALUE}) {
                refusesPart(kind, 0, to);
                refusesPart(kind, 5, to);
                refusesPart(kind, to, to);
            }
            for (int many : LENGTHS) {
                CHECK.refused("open one too many of " + many, Ranges.INDEX,
                        () -> Yards.opened(kind, many), yard -> yard.open(0, kind, 0, 0, many + 1));
                CHECK.refused("open nothing behind the end of " + many, Ranges.INDEX,
                        () -> Yards.opened(kind, many), yard -> yard.open(0, kind, 0, many + 1, many + 1));
            }
        }
    }

    private static void openRefusedForAnotherKind() {
        CHECK.of("7 open, refused for a row of another kind than the bench has");
        for (char kind : KINDS) {
            for (char other : KINDS) {
                CHECK.refused("open for too many of " + other, Ranges.INDEX,
                        () -> Yards.mixed(kind), yard -> yard.open(3, other, 0, 0, 1));
                CHECK.refused("open for no row of " + other, Ranges.INDEX,
                        () -> Yards.mixed(kind), yard -> yard.open(3, other, 4, 0, 0));
                CHECK.refused("openAll for no row of " + other, Ranges.INDEX,
                        () -> Yards.mixed(kind), yard -> yard.openAll(3, other, 4));
            }
        }
    }

    // Promise 8.

    private static void openAllOfEmptyAndFull() {
        CHECK.of("8 openAll, of an empty row, of a full one, and of what is between");
        for (char kind : KINDS) {
            for (int many : LENGTHS) {
                Splityard yard = Yards.laid(kind, 1, many);
                CHECK.same("openAll of " + many, many, yard.openAll(4, kind, 1));
                CHECK.same("its items", "p" + many, Picture.bench(yard, 4));
                CHECK.same("its numbers", numbers(1, many), Picture.drained(yard, 4));
            }
        }
    }

    private static void openAllWhatWasOnItIsGone() {
        CHECK.of("8 openAll, what was on it is gone");
        for (char kind : KINDS) {
            for (Splityard yard : usedBenches(kind)) {
                yard.lay(kind, 0, 3, -1, -1);
                yard.openAll(0, kind, 0);
                CHECK.same("its items", "p3", Picture.bench(yard, 0));
                CHECK.same("its numbers", "n-1 n-2 n-3", Picture.drained(yard, 0));
                yard.openAll(0, kind, 1);
                CHECK.same("its only piece, of no numbers", "p0", Picture.bench(yard, 0));
            }
        }
        Splityard yard = Yards.iterated('i', 5);
        yard.openAll(0, 'o', 0);
        CHECK.same("an iterator is gone, too", "p0", Picture.bench(yard, 0));
        CHECK.same("a piece of Integer stands there", "throws java.lang.UnsupportedOperationException",
                Check.answer(yard, made -> made.iterate(0, 0)));
        yard.openAll(0, 'i', 0);
        CHECK.same("a piece of int stands there", 5, yard.iterate(0, 0));
    }

    private static void openAllKinds() {
        CHECK.of("8 openAll, IllegalArgumentException if there is no such kind");
        Ranges.noSuchKind(CHECK, "openAll", (yard, kind, row) -> yard.openAll(3, kind, row));
        Ranges.noSuchKind(CHECK, "openAll on bench 6", (yard, kind, row) -> yard.openAll(6, kind, row));
        Ranges.noSuchKind(CHECK, "openAll on bench -1", (yard, kind, row) -> yard.openAll(-1, kind, row));
    }

    private static void openAllBenches() {
        CHECK.of("8 openAll, IndexOutOfBoundsException if there is no such bench");
        Ranges.eachBench(CHECK, "openAll", 3, (yard, bench) -> yard.openAll(bench, 'l', 2));
        Ranges.eachBench(CHECK, "items behind openAll", 1, (yard, bench) -> {
            yard.step(bench, 0);
            yard.openAll(bench, 'l', 2);
            return yard.items(bench);
        });
        Ranges.noSuchBench(CHECK, "openAll", (yard, bench) -> yard.openAll(bench, 'l', 1));
    }

    private static void openAllRows() {
        CHECK.of("8 openAll, IndexOutOfBoundsException if there is no such row");
        Ranges.eachRow(CHECK, "openAll", 3, (yard, kind, row) -> yard.openAll(0, kind, row));
        Ranges.noSuchRow(CHECK, "openAll", (yard, kind, row) -> yard.openAll(3, kind, row));
    }

    // Promise 9.

    private static void itemsFewestAndMost() {
        CHECK.of("9 items, none, one, and the most there are");
        for (char kind : KINDS) {
            CHECK.leaves("a bench never opened", 0, () -> Yards.mixed(kind), yard -> yard.items(0));
            CHECK.leaves("an empty part", 1, () -> Yards.opened(kind, 0), yard -> yard.items(0));
            CHECK.leaves("an empty part, swept", 0, () -> Yards.read(kind, 0), yard -> yard.items(0));
            CHECK.leaves("numbers and pieces", 7, () -> Yards.mixed(kind), yard -> yard.items(3));
            CHECK.leaves("48 numbers", 48, () -> Yards.read(kind, 48), yard -> yard.items(0));
            CHECK.same("48 numbers and 48 pieces", 96, Yards.mostItems(kind).items(0));
        }
    }

    private static void itemsBenches() {
        CHECK.of("9 items, IndexOutOfBoundsException if there is no such bench");
        Ranges.eachBench(CHECK, "items", 1, Splityard::items);
        Ranges.noSuchBench(CHECK, "items", Splityard::items);
    }

    // Promise 10.

    private static void kindOfEach() {
        CHECK.of("10 kindOf, a number, a piece, an iterator, item from 0");
        for (char kind : Yards.ITERATED) {
            String due = "nntnnpp";
            for (int item = 0; item < 7; item++) {
                int asked = item;
                CHECK.leaves("item " + item, due.charAt(item), () -> Yards.mixed(kind), yard -> yard.kindOf(3, asked));
            }
            CHECK.same("an iterator of none", 't', Yards.iterated(kind, 0).kindOf(0, 0));
        }
        CHECK.same("a piece of Integer", 'p', Yards.mixed('o').kindOf(3, 2));
        CHECK.same("a number of Integer", 'n', Yards.mixed('o').kindOf(3, 1));
        CHECK.same("the last number of 96 items", 'n', Yards.mostItems('l').kindOf(0, 94));
        CHECK.same("the last piece of 96 items", 'p', Yards.mostItems('l').kindOf(0, 95));
    }

    private static void kindOfNoBenchOrItem() {
        CHECK.of("10 kindOf, IndexOutOfBoundsException if there is no such bench or item");
        Ranges.eachBench(CHECK, "kindOf", 'p', (yard, bench) -> yard.kindOf(bench, 0));
        Ranges.noSuchBenchForItem(CHECK, "kindOf", Splityard::kindOf);
        Ranges.noSuchItem(CHECK, "kindOf", Splityard::kindOf);
        CHECK.same("behind 96 items", "throws java.lang.IndexOutOfBoundsException",
                Check.answer(Yards.mostItems('l'), yard -> yard.kindOf(0, 96)));
    }

    // Promise 11.

    private static void givenLeastAndGreatest() {
        CHECK.of("11 given, the least and the greatest number of each kind, at the first and the last place");
        for (char kind : KINDS) {
            long least = kind == 'l' ? Long.MIN_VALUE : Integer.MIN_VALUE;
            long greatest = kind == 'l' ? Long.MAX_VALUE : Integer.MAX_VALUE;
            Check.Recipe recipe = () -> {
                Splityard yard = new Splityard();
                yard.lay(kind, 0, 2, least, -1);
                yard.openAll(5, kind, 0);
                yard.drain(5, 0);
                return yard;
            };
            CHECK.leaves("the least of " + kind, least, recipe, yard -> yard.given(5, 0));
            CHECK.leaves("the greatest of " + kind, greatest, recipe, yard -> yard.given(5, 1));
            CHECK.leaves("the last of 48", 48L, () -> Yards.read(kind, 48), yard -> yard.given(0, 47));
        }
    }

    private static void givenNoBenchOrItem() {
        CHECK.of("11 given, IndexOutOfBoundsException if there is no such bench or item");
        Ranges.eachBench(CHECK, "given", 1L, (yard, bench) -> {
            yard.step(bench, 0);
            return yard.given(bench, 0);
        });
        Ranges.noSuchBenchForItem(CHECK, "given", Splityard::given);
        Ranges.noSuchItem(CHECK, "given", Splityard::given);
    }

    private static void givenOfPieces() {
        CHECK.of("11 given, IllegalStateException if the item is a piece");
        Ranges.notOfAPiece(CHECK, "given", Splityard::given);
        Ranges.notOfAnIterator(CHECK, "given", Splityard::given);
    }

    // Promise 12.

    private static void leftNoneOneTwoAndAll() {
        CHECK.of("12 left, of a piece with none, one, two and all left");
        for (char kind : KINDS) {
            for (int many : LENGTHS) {
                CHECK.leaves("left of " + many, many, () -> Yards.opened(kind, many), yard -> yard.left(0, 0));
            }
            CHECK.leaves("left of a piece behind numbers", 4, () -> Yards.mixed(kind), yard -> yard.left(3, 6));
            CHECK.leaves("left of a piece that was read", 0, () -> Yards.mixed(kind), yard -> yard.left(3, 5));
        }
        for (char kind : Yards.ITERATED) {
            for (int many : LENGTHS) {
                CHECK.leaves("left of an iterator of " + many, many,
                        () -> Yards.iterated(kind, many), yard -> yard.left(0, 0));
            }
        }
    }

    private static void leftNoBenchOrItem() {
        CHECK.of("12 left, IndexOutOfBoundsException if there is no such bench or item");
        Ranges.eachBench(CHECK, "left", 3, (yard, bench) -> yard.left(bench, 0));
        Ranges.noSuchBenchForItem(CHECK, "left", Splityard::left);
        Ranges.noSuchItem(CHECK, "left", Splityard::left);
    }

    private static void leftOfANumber() {
        CHECK.of("12 left, IllegalStateException if the item is a number");
        Ranges.notOfANumber(CHECK, "left", Splityard::left);
    }

    // Promise 13.

    private static void aheadOfFirstAndLast() {
        CHECK.of("13 ahead, none of the first item, and of the last one all that stand ahead");
        for (char kind : KINDS) {
            CHECK.leaves("a new piece", 0, () -> Yards.opened(kind, 48), yard -> yard.ahead(0, 0));
            CHECK.leaves("an empty part", 0, () -> Yards.opened(kind, 0), yard -> yard.ahead(0, 0));
            CHECK.leaves("the first number", 0, () -> Yards.read(kind, 48), yard -> yard.ahead(0, 0));
            CHECK.leaves("the last number", 47, () -> Yards.read(kind, 48), yard -> yard.ahead(0, 47));
            CHECK.same("the last number of 96 items", 47, Yards.mostItems(kind).ahead(0, 94));
            CHECK.same("the last piece of 96 items", 48, Yards.mostItems(kind).ahead(0, 95));
        }
    }

    private static void aheadCountsGivenAndLeft() {
        CHECK.of("13 ahead, numbers that were given, and those that pieces and iterators have left");
        int[] due = {0, 1, 2, 4, 5, 6, 6};
        for (char kind : KINDS) {
            for (int item = 0; item < due.length; item++) {
                int asked = item;
                CHECK.leaves("ahead of item " + item, due[item], () -> Yards.mixed(kind),
                        yard -> yard.ahead(3, asked));
            }
        }
    }

    private static void aheadCountsFromThePartOn() {
        CHECK.of("13 ahead, numbers of the part, not of the row");
        for (char kind : KINDS) {
            Splityard yard = Yards.laid(kind, 0, 9);
            yard.open(1, kind, 0, 6, 9);
            CHECK.same("the piece", 0, yard.ahead(1, 0));
            yard.drain(1, 0);
            CHECK.same("the last number", 2, yard.ahead(1, 2));
            CHECK.same("the empty piece", 3, yard.ahead(1, 3));
        }
    }

    private static void aheadNoBenchOrItem() {
        CHECK.of("13 ahead, IndexOutOfBoundsException if there is no such bench or item");
        Ranges.eachBench(CHECK, "ahead", 1, (yard, bench) -> {
            yard.step(bench, 0);
            return yard.ahead(bench, 1);
        });
        Ranges.noSuchBenchForItem(CHECK, "ahead", Splityard::ahead);
        Ranges.noSuchItem(CHECK, "ahead", Splityard::ahead);
    }

    // Promise 14.

    private static void hasAlways() {
        CHECK.of("14 has, each of the four and all four: it always has");
        for (char kind : KINDS) {
            for (char what : CHARACTERISTICS) {
                for (int many : LENGTHS) {
                    CHECK.leaves("has " + what + " with " + many, true,
                            () -> Yards.opened(kind, many), yard -> yard.has(0, 0, what));
                }
                CHECK.leaves("has " + what + ", split", true, () -> Yards.mixed(kind), yard -> yard.has(3, 6, what));
                CHECK.leaves("has " + what + ", read", true, () -> Yards.mixed(kind), yard -> yard.has(3, 5, what));
            }
        }
    }

    private static void hasNoBenchOrItem() {
        CHECK.of("14 has, IndexOutOfBoundsException if there is no such bench or item");
        Ranges.eachBench(CHECK, "has", true, (yard, bench) -> yard.has(bench, 0, 's'));
        Ranges.noSuchBenchForItem(CHECK, "has", (yard, bench, item) -> yard.has(bench, item, 'a'));
        Ranges.noSuchItem(CHECK, "has", (yard, bench, item) -> yard.has(bench, item, 'a'));
    }

    private static void hasOfNumbersAndIterators() {
        CHECK.of("14 has, IllegalStateException if the item is a number or an iterator");
        for (char what : CHARACTERISTICS) {
            Ranges.notOfANumber(CHECK, "has " + what, (yard, bench, item) -> yard.has(bench, item, what));
            Ranges.notOfAnIterator(CHECK, "has " + what, (yard, bench, item) -> yard.has(bench, item, what));
        }
    }

    private static void hasNothingSuch() {
        CHECK.of("14 has, IllegalArgumentException if there is nothing such");
        for (char what : NO_CHARACTERISTICS) {
            for (char kind : KINDS) {
                CHECK.refused("has " + (int) what, Ranges.ARGUMENT,
                        () -> Yards.mixed(kind), yard -> yard.has(3, 6, what));
                CHECK.refused("has " + (int) what + " with none left", Ranges.ARGUMENT,
                        () -> Yards.mixed(kind), yard -> yard.has(3, 5, what));
            }
        }
        for (int what = 0; what < 65536; what++) {
            char asked = (char) what;
            boolean isOne = "osuia".indexOf(what) >= 0;
            CHECK.same("has " + what, isOne ? true : "throws java.lang.IllegalArgumentException",
                    Check.answer(Yards.opened('l', 2), yard -> yard.has(0, 0, asked)));
        }
    }

    private static void hasFirstOfSeveral() {
        CHECK.of("14 has, the first of several exceptions");
        for (char what : NO_CHARACTERISTICS) {
            String name = "has " + (int) what;
            Ranges.ItemCall call = (yard, bench, item) -> yard.has(bench, item, what);
            Ranges.noSuchBenchForItem(CHECK, name, call);
            Ranges.noSuchItem(CHECK, name, call);
            Ranges.notOfANumber(CHECK, name, call);
            Ranges.notOfAnIterator(CHECK, name, call);
        }
    }

    // Promise 15.

    private static void isExactAlways() {
        CHECK.of("15 isExact, it always is");
        for (char kind : KINDS) {
            for (int many : LENGTHS) {
                CHECK.leaves("isExact with " + many, true,
                        () -> Yards.opened(kind, many), yard -> yard.isExact(0, 0));
            }
            CHECK.leaves("isExact, split", true, () -> Yards.mixed(kind), yard -> yard.isExact(3, 6));
            CHECK.leaves("isExact, read", true, () -> Yards.mixed(kind), yard -> yard.isExact(3, 5));
        }
    }

    private static void isExactNoBenchOrItem() {
        CHECK.of("15 isExact, IndexOutOfBoundsException if there is no such bench or item");
        Ranges.eachBench(CHECK, "isExact", true, (yard, bench) -> yard.isExact(bench, 0));
        Ranges.noSuchBenchForItem(CHECK, "isExact", Splityard::isExact);
        Ranges.noSuchItem(CHECK, "isExact", Splityard::isExact);
    }

    private static void isExactOfNumbersAndIterators() {
        CHECK.of("15 isExact, IllegalStateException if the item is a number or an iterator");
        Ranges.notOfANumber(CHECK, "isExact", Splityard::isExact);
        Ranges.notOfAnIterator(CHECK, "isExact", Splityard::isExact);
    }
}
