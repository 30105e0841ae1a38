/** Promises 16 to 23, sentence by sentence: pieces are split and read. */
public final class ReadingTest {
    private static final Class<UnsupportedOperationException> UNSUPPORTED = UnsupportedOperationException.class;
    private static final char[] KINDS = Yards.KINDS;
    private static final char[] ITERATED = Yards.ITERATED;
    private static final Check CHECK = new Check("ReadingTest");

    public static void main(String[] args) throws ReflectiveOperationException {
        splitTwoOrMore();
        splitAmongOthers();
        splitFewerThanTwo();
        splitNoBenchOrItem();
        splitOfNumbersAndIterators();
        stepGivesOne();
        stepOfAnIterator();
        stepNoneLeft();
        stepNoBenchOrItem();
        stepOfANumber();
        drainGivesAll();
        drainOfAnIterator();
        drainNoneLeft();
        drainNoBenchOrItem();
        drainOfANumber();
        iterateReturnsWhatIsLeft();
        iterateReadsOn();
        iterateNoBenchOrItem();
        iterateOfNumbersAndIterators();
        iterateOfInteger();
        iterateFirstOfSeveral();
        hasNextOfNoneOneAndTwo();
        hasNextNoBenchOrItem();
        hasNextOfNoIterator();
        crumbleUntilNoneHasMore();
        crumbleOneNumberMore();
        crumbleLeavesIteratorsAndNumbers();
        crumbleNothingThere();
        crumbleSizes();
        crumbleBenches();
        sweepTakesEmptyOnes();
        sweepLeavesThoseWithOneLeft();
        sweepNothingThere();
        sweepBenches();
        isReadOfNumbersAlone();
        isReadWithAPieceLeft();
        isReadSeesAnotherNumber();
        isReadWhateverTheRowBecame();
        isReadEmptyPart();
        isReadNeverOpened();
        isReadBenches();
        CHECK.end();
    }

    // Promise 16.

    private static void splitTwoOrMore() {
        CHECK.of("16 split, of 2 or more, returns how many numbers the first one of both has");
        for (char kind : KINDS) {
            for (int many = 2; many <= 48; many++) {
                Splityard yard = Yards.opened(kind, many);
                CHECK.same("split " + many, many / 2, yard.split(0, 0));
                CHECK.same("both of " + many, "p" + many / 2 + " p" + (many - many / 2), Picture.bench(yard, 0));
                yard.drain(0, 1);
                CHECK.same("the other one begins with", many / 2 + 1L, yard.given(0, 1));
                yard.drain(0, 0);
                CHECK.same("the first one ends with", (long) (many / 2), yard.given(0, many / 2 - 1));
            }
        }
    }

    private static void splitAmongOthers() {
        CHECK.of("16 split, of the first, of a middle and of the last piece, which take no part for each other");
        for (char kind : KINDS) {
            Splityard yard = Yards.opened(kind, 16);
            yard.split(0, 0);
            CHECK.same("the last", 4, yard.split(0, 1));
            CHECK.same("the items", "p8 p4 p4", Picture.bench(yard, 0));
            CHECK.same("the middle", 2, yard.split(0, 1));
            CHECK.same("the items", "p8 p2 p2 p4", Picture.bench(yard, 0));
            CHECK.same("the first", 4, yard.split(0, 0));
            CHECK.same("the items", "p4 p4 p2 p2 p4", Picture.bench(yard, 0));
            CHECK.same("their numbers", Picture.bench(Yards.read(kind, 16), 0), Picture.drained(yard, 0));
        }
    }

    private static void splitFewerThanTwo() {
        CHECK.of("16 split, -1 if it has fewer than 2 left, and nothing changes");
        for (char kind : KINDS) {
            CHECK.leaves("split an empty part", -1, () -> Yards.opened(kind, 0), yard -> yard.split(0, 0));
            CHECK.leaves("split a part of 1", -1, () -> Yards.opened(kind, 1), yard -> yard.split(0, 0));
            CHECK.leaves("split a piece that was read", -1, () -> Yards.mixed(kind), yard -> yard.split(3, 5));
            Check.Recipe oneLeft = () -> {
                Splityard yard = Yards.opened(kind, 3);
                yard.step(0, 0);
                yard.step(0, 1);
                return yard;
            };
            CHECK.leaves("split a piece with 1 left", -1, oneLeft, yard -> yard.split(0, 2));
        }
    }

    private static void splitNoBenchOrItem() {
        CHECK.of("16 split, IndexOutOfBoundsException if there is no such bench or item");
        Ranges.eachBench(CHECK, "split", 1, (yard, bench) -> yard.split(bench, 0));
        Ranges.noSuchBenchForItem(CHECK, "split", Splityard::split);
        Ranges.noSuchItem(CHECK, "split", Splityard::split);
    }

    private static void splitOfNumbersAndIterators() {
        CHECK.of("16 split, IllegalStateException if the item is a number or an iterator");
        Ranges.notOfANumber(CHECK, "split", Splityard::split);
        Ranges.notOfAnIterator(CHECK, "split", Splityard::split);
    }

    // Promise 17.

    private static void stepGivesOne() {
        CHECK.of("17 step, a piece with one or more left gives one, right ahead of it");
        for (char kind : KINDS) {
            Splityard yard = Yards.opened(kind, 3);
            CHECK.same("step with 3 left", true, yard.step(0, 0));
            CHECK.same("the items", "n1 p2", Picture.bench(yard, 0));
            CHECK.same("step with 2 left", true, yard.step(0, 1));
            CHECK.same("the items", "n1 n2 p1", Picture.bench(yard, 0));
            CHECK.same("step with 1 left", true, yard.step(0, 2));
            CHECK.same("the items", "n1 n2 n3 p0", Picture.bench(yard, 0));
            Splityard others = Yards.opened(kind, 4);
            others.split(0, 0);
            others.step(0, 0);
            CHECK.same("ahead of another one", "n1 p1 p2", Picture.bench(others, 0));
            others.step(0, 2);
            CHECK.same("behind another one", "n1 p1 n3 p1", Picture.bench(others, 0));
        }
    }

    private static void stepOfAnIterator() {
        CHECK.of("17 step, an iterator with one or more left gives one, right ahead of it");
        for (char kind : ITERATED) {
            Splityard yard = Yards.opened(kind, 4);
            yard.split(0, 0);
            yard.iterate(0, 1);
            CHECK.same("step with 2 left", true, yard.step(0, 1));
            CHECK.same("the items", "p2 n3 t1", Picture.bench(yard, 0));
            CHECK.same("step with 1 left", true, yard.step(0, 2));
            CHECK.same("the items", "p2 n3 n4 t0", Picture.bench(yard, 0));
        }
    }

    private static void stepNoneLeft() {
        CHECK.of("17 step, false, with nothing changed, if it has none left");
        for (char kind : KINDS) {
            CHECK.leaves("step an empty part", false, () -> Yards.opened(kind, 0), yard -> yard.step(0, 0));
            CHECK.leaves("step a piece that was read", false, () -> Yards.mixed(kind), yard -> yard.step(3, 5));
        }
        for (char kind : ITERATED) {
            CHECK.leaves("step an empty iterator", false, () -> Yards.iterated(kind, 0), yard -> yard.step(0, 0));
            CHECK.leaves("step an iterator that was read", false, () -> {
                Splityard yard = Yards.mixed(kind);
                yard.drain(3, 2);
                return yard;
            }, yard -> yard.step(3, 4));
        }
    }

    private static void stepNoBenchOrItem() {
        CHECK.of("17 step, IndexOutOfBoundsException if there is no such bench or item");
        Ranges.eachBench(CHECK, "step", true, (yard, bench) -> yard.step(bench, 0));
        Ranges.noSuchBenchForItem(CHECK, "step", Splityard::step);
        Ranges.noSuchItem(CHECK, "step", Splityard::step);
    }

    private static void stepOfANumber() {
        CHECK.of("17 step, IllegalStateException if the item is a number");
        Ranges.notOfANumber(CHECK, "step", Splityard::step);
    }

    // Promise 18.

    private static void drainGivesAll() {
        CHECK.of("18 drain, a piece gives all numbers that it has left, and returns how many");
        for (char kind : KINDS) {
            for (int many : new int[] {1, 2, 3, 47, 48}) {
                Splityard yard = Yards.opened(kind, many);
                CHECK.same("drain " + many, many, yard.drain(0, 0));
                CHECK.same("its items", Picture.bench(Yards.read(kind, many), 0) + " p0", Picture.bench(yard, 0));
            }
            Splityard yard = Yards.opened(kind, 6);
            yard.step(0, 0);
            yard.split(0, 1);
            CHECK.same("the other half", 3, yard.drain(0, 2));
            CHECK.same("the items", "n1 p2 n4 n5 n6 p0", Picture.bench(yard, 0));
            CHECK.same("the first half", 2, yard.drain(0, 1));
            CHECK.same("the items", "n1 n2 n3 p0 n4 n5 n6 p0", Picture.bench(yard, 0));
        }
    }

    private static void drainOfAnIterator() {
        CHECK.of("18 drain, an iterator gives all numbers that it has left");
        for (char kind : ITERATED) {
            for (int many : new int[] {1, 2, 3, 47, 48}) {
                Splityard yard = Yards.iterated(kind, many);
                CHECK.same("drain " + many, many, yard.drain(0, 0));
                CHECK.same("its items", Picture.bench(Yards.read(kind, many), 0) + " t0", Picture.bench(yard, 0));
            }
            Splityard yard = Yards.iterated(kind, 3);
            yard.step(0, 0);
            CHECK.same("what a step left", 2, yard.drain(0, 1));
            CHECK.same("the items", "n1 n2 n3 t0", Picture.bench(yard, 0));
        }
    }

    private static void drainNoneLeft() {
        CHECK.of("18 drain, 0 if it has none left");
        for (char kind : KINDS) {
            CHECK.leaves("drain an empty part", 0, () -> Yards.opened(kind, 0), yard -> yard.drain(0, 0));
            CHECK.leaves("drain a piece that was read", 0, () -> Yards.mixed(kind), yard -> yard.drain(3, 5));
        }
        for (char kind : ITERATED) {
            CHECK.leaves("drain an empty iterator", 0, () -> Yards.iterated(kind, 0), yard -> yard.drain(0, 0));
            CHECK.leaves("drain an iterator that was read", 0, () -> {
                Splityard yard = Yards.iterated(kind, 3);
                yard.drain(0, 0);
                return yard;
            }, yard -> yard.drain(0, 3));
        }
    }

    private static void drainNoBenchOrItem() {
        CHECK.of("18 drain, IndexOutOfBoundsException if there is no such bench or item");
        Ranges.eachBench(CHECK, "drain", 3, (yard, bench) -> yard.drain(bench, 0));
        Ranges.noSuchBenchForItem(CHECK, "drain", Splityard::drain);
        Ranges.noSuchItem(CHECK, "drain", Splityard::drain);
    }

    private static void drainOfANumber() {
        CHECK.of("18 drain, IllegalStateException if the item is a number");
        Ranges.notOfANumber(CHECK, "drain", Splityard::drain);
    }

    // Promise 19.

    private static void iterateReturnsWhatIsLeft() {
        CHECK.of("19 iterate, returns how many numbers it has left");
        for (char kind : ITERATED) {
            for (int many : new int[] {0, 1, 2, 3, 47, 48}) {
                Splityard yard = Yards.opened(kind, many);
                CHECK.same("iterate " + many, many, yard.iterate(0, 0));
                CHECK.same("its item", "t" + many, Picture.bench(yard, 0));
            }
            Splityard yard = Yards.mixed(kind);
            CHECK.same("behind numbers", 4, yard.iterate(3, 6));
            CHECK.same("a piece that was read", 0, yard.iterate(3, 5));
            CHECK.same("the items", "n2 n3 t2 n6 n7 t0 t4", Picture.bench(yard, 3));
        }
    }

    private static void iterateReadsOn() {
        CHECK.of("19 iterate, the iterator goes on where the piece stood");
        for (char kind : ITERATED) {
            Splityard yard = Yards.opened(kind, 5);
            yard.step(0, 0);
            yard.iterate(0, 1);
            yard.step(0, 1);
            CHECK.same("a step", "n1 n2 t3", Picture.bench(yard, 0));
            yard.drain(0, 2);
            CHECK.same("to the end", "n1 n2 n3 n4 n5 t0", Picture.bench(yard, 0));
        }
    }

    private static void iterateNoBenchOrItem() {
        CHECK.of("19 iterate, IndexOutOfBoundsException if there is no such bench or item");
        Ranges.eachBench(CHECK, "iterate", 3, (yard, bench) -> yard.iterate(bench, 0));
        Ranges.noSuchBenchForItem(CHECK, "iterate", Splityard::iterate);
        Ranges.noSuchItem(CHECK, "iterate", Splityard::iterate);
    }

    private static void iterateOfNumbersAndIterators() {
        CHECK.of("19 iterate, IllegalStateException if the item is a number or an iterator");
        Ranges.notOfANumber(CHECK, "iterate", Splityard::iterate);
        Ranges.notOfAnIterator(CHECK, "iterate", Splityard::iterate);
    }

    private static void iterateOfInteger() {
        CHECK.of("19 iterate, UnsupportedOperationException if it is a piece of a row of Integer");
        for (int many : new int[] {0, 1, 2, 48}) {
            CHECK.refused("iterate " + many, UNSUPPORTED, () -> Yards.opened('o', many), yard -> yard.iterate(0, 0));
        }
        CHECK.refused("a piece behind numbers", UNSUPPORTED, () -> Yards.mixed('o'), yard -> yard.iterate(3, 6));
        CHECK.refused("a piece that was read", UNSUPPORTED, () -> Yards.mixed('o'), yard -> yard.iterate(3, 5));
        Splityard yard = Yards.opened('o', 2);
        yard.lay('i', 0, 2, 1, 1);
        yard.openAll(1, 'i', 0);
        CHECK.same("a piece of int on the bench beside", 2, yard.iterate(1, 0));
    }

    private static void iterateFirstOfSeveral() {
        CHECK.of("19 iterate, the first of several exceptions");
        CHECK.refused("a number of Integer", Ranges.STATE, () -> Yards.mixed('o'), yard -> yard.iterate(3, 0));
        CHECK.refused("the last number of Integer", Ranges.STATE,
                () -> Yards.mixed('o'), yard -> yard.iterate(3, 4));
        for (int item : new int[] {-1, 7, Integer.MIN_VALUE, Integer.MAX_VALUE}) {
            CHECK.refused("no item of Integer", Ranges.INDEX,
                    () -> Yards.mixed('o'), yard -> yard.iterate(3, item));
        }
        for (int bench : Ranges.NO_BENCHES) {
            CHECK.refused("no bench", Ranges.INDEX, () -> Yards.mixed('o'), yard -> yard.iterate(bench, 0));
        }
    }

    // Promise 20.

    private static void hasNextOfNoneOneAndTwo() {
        CHECK.of("20 hasNext, of an iterator with none, one, two and 48 left");
        for (char kind : ITERATED) {
            for (int many : new int[] {0, 1, 2, 48}) {
                CHECK.leaves("hasNext of " + many, many > 0,
                        () -> Yards.iterated(kind, many), yard -> yard.hasNext(0, 0));
            }
            CHECK.leaves("behind numbers", true, () -> Yards.mixed(kind), yard -> yard.hasNext(3, 2));
            Splityard yard = Yards.mixed(kind);
            yard.step(3, 2);
            CHECK.same("behind a step", true, yard.hasNext(3, 3));
            yard.step(3, 3);
            CHECK.same("behind its last step", false, yard.hasNext(3, 4));
        }
    }

    private static void hasNextNoBenchOrItem() {
        CHECK.of("20 hasNext, IndexOutOfBoundsException if there is no such bench or item");
        Ranges.eachBench(CHECK, "hasNext", true, (yard, bench) -> {
            yard.iterate(bench, 0);
            return yard.hasNext(bench, 0);
        });
        Ranges.noSuchBenchForItem(CHECK, "hasNext", Splityard::hasNext);
        Ranges.noSuchItem(CHECK, "hasNext", Splityard::hasNext);
    }

    private static void hasNextOfNoIterator() {
        CHECK.of("20 hasNext, IllegalStateException if the item is no iterator");
        Ranges.notOfANumber(CHECK, "hasNext", Splityard::hasNext);
        Ranges.notOfAPiece(CHECK, "hasNext", Splityard::hasNext);
    }

    // Promise 21.

    /** p(n) of the document's theorem. */
    private static int pieces(int many, int most) {
        return many <= most ? 1 : pieces(many / 2, most) + pieces(many - many / 2, most);
    }

    private static String crumbs(int many, int most) {
        return many <= most ? "p" + many : crumbs(many / 2, most) + " " + crumbs(many - many / 2, most);
    }

    private static void crumbleUntilNoneHasMore() {
        CHECK.of("21 crumble, each piece until none that came of it has more, returns how many splits that took");
        for (int many = 0; many <= 48; many++) {
            for (int most = 1; most <= 48; most++) {
                Splityard yard = Yards.opened(KINDS[(many + most) % 3], many);
                CHECK.same("crumble " + many + " to " + most, pieces(many, most) - 1, yard.crumble(0, most));
                CHECK.same("its items", crumbs(many, most), Picture.bench(yard, 0));
                CHECK.same("crumble again", 0, yard.crumble(0, most));
            }
        }
    }

    private static void crumbleOneNumberMore() {
        CHECK.of("21 crumble, a piece of just so many is not split, one of a number more is");
        for (char kind : KINDS) {
            for (int most : new int[] {1, 2, 3, 47}) {
                CHECK.leaves("crumble " + most + " to it", 0, () -> Yards.opened(kind, most),
                        yard -> yard.crumble(0, most));
                Splityard yard = Yards.opened(kind, most + 1);
                CHECK.same("crumble one more than " + most, 1, yard.crumble(0, most));
            }
            CHECK.leaves("crumble 48 to 48", 0, () -> Yards.opened(kind, 48), yard -> yard.crumble(0, 48));
            CHECK.same("crumble 48 to 1", 47, Yards.opened(kind, 48).crumble(0, 1));
        }
    }

    private static void crumbleLeavesIteratorsAndNumbers() {
        CHECK.of("21 crumble, all pieces, none of them an iterator");
        for (char kind : ITERATED) {
            Splityard yard = Yards.mixed(kind);
            CHECK.same("crumble to 1", 3, yard.crumble(3, 1));
            CHECK.same("its items", "n2 n3 t2 n6 n7 p0 p1 p1 p1 p1", Picture.bench(yard, 3));
            CHECK.leaves("an iterator alone", 0, () -> Yards.iterated(kind, 48), one -> one.crumble(0, 1));
            Splityard two = Yards.opened(kind, 16);
            two.split(0, 0);
            two.iterate(0, 1);
            CHECK.same("ahead of an iterator", 1, two.crumble(0, 4));
            CHECK.same("its items", "p4 p4 t8", Picture.bench(two, 0));
        }
        Splityard yard = Yards.mixed('o');
        CHECK.same("crumble more than one piece", 4, yard.crumble(3, 1));
        CHECK.same("its items", "n2 n3 p1 p1 n6 n7 p0 p1 p1 p1 p1", Picture.bench(yard, 3));
        CHECK.same("its numbers", "n2 n3 n4 n5 n6 n7 n8 n9 n10 n11", Picture.drained(yard, 3));
    }

    private static void crumbleNothingThere() {
        CHECK.of("21 crumble, a bench with nothing to split");
        for (char kind : KINDS) {
            CHECK.leaves("never opened", 0, () -> Yards.mixed(kind), yard -> yard.crumble(5, 1));
            CHECK.leaves("an empty part", 0, () -> Yards.opened(kind, 0), yard -> yard.crumble(0, 1));
            CHECK.leaves("a part of one", 0, () -> Yards.opened(kind, 1), yard -> yard.crumble(0, 1));
            CHECK.leaves("numbers alone", 0, () -> Yards.read(kind, 48), yard -> yard.crumble(0, 1));
        }
    }

    private static void crumbleSizes() {
        CHECK.of("21 crumble, IllegalArgumentException if the number is out of range, 1 to 48");
        for (char kind : KINDS) {
            Ranges.noSuchSize(CHECK, "crumble", () -> Yards.mixed(kind), (yard, most) -> yard.crumble(3, most));
            Ranges.noSuchSize(CHECK, "crumble, never opened", () -> Yards.mixed(kind),
                    (yard, most) -> yard.crumble(0, most));
            Ranges.noSuchSize(CHECK, "crumble 48", () -> Yards.opened(kind, 48),
                    (yard, most) -> yard.crumble(0, most));
        }
    }

    private static void crumbleBenches() {
        CHECK.of("21 crumble, IndexOutOfBoundsException if there is no such bench, also with a number out of range");
        Ranges.eachBench(CHECK, "crumble", 2, (yard, bench) -> yard.crumble(bench, 1));
        for (int most : new int[] {1, 48, 0, 49, Integer.MIN_VALUE, Integer.MAX_VALUE}) {
            Ranges.noSuchBench(CHECK, "crumble to " + most, (yard, bench) -> yard.crumble(bench, most));
        }
    }

    // Promise 22.

    private static void sweepTakesEmptyOnes() {
        CHECK.of("22 sweep, pieces that have no numbers left, iterators too, returns how many went");
        for (char kind : KINDS) {
            Splityard yard = Yards.mixed(kind);
            CHECK.same("sweep one", 1, yard.sweep(3));
            CHECK.same("the items", kind == 'o' ? "n2 n3 p2 n6 n7 p4" : "n2 n3 t2 n6 n7 p4", Picture.bench(yard, 3));
            yard.drain(3, 2);
            CHECK.same("sweep a second one", 1, yard.sweep(3));
            CHECK.same("the items", "n2 n3 n4 n5 n6 n7 p4", Picture.bench(yard, 3));
            CHECK.same("the numbers", "n2 n3 n4 n5 n6 n7 n8 n9 n10 n11", Picture.drained(yard, 3));
            Splityard most = Yards.mostItems(kind);
            CHECK.same("sweep 48", 48, most.sweep(0));
            CHECK.same("the items", Picture.bench(Yards.read(kind, 48), 0), Picture.bench(most, 0));
            Splityard none = Yards.opened(kind, 0);
            CHECK.same("sweep an empty part", 1, none.sweep(0));
            CHECK.same("no items", 0, none.items(0));
        }
        for (char kind : ITERATED) {
            Splityard yard = Yards.iterated(kind, 0);
            CHECK.same("sweep an empty iterator", 1, yard.sweep(0));
            CHECK.same("no items", 0, yard.items(0));
        }
    }

    private static void sweepLeavesThoseWithOneLeft() {
        CHECK.of("22 sweep, pieces and iterators with one or more left stay");
        for (char kind : KINDS) {
            for (int many : new int[] {1, 2, 48}) {
                CHECK.leaves("a piece of " + many, 0, () -> Yards.opened(kind, many), yard -> yard.sweep(0));
            }
            CHECK.leaves("numbers alone", 0, () -> Yards.read(kind, 48), yard -> yard.sweep(0));
        }
        for (char kind : ITERATED) {
            for (int many : new int[] {1, 2, 48}) {
                CHECK.leaves("an iterator of " + many, 0, () -> Yards.iterated(kind, many), yard -> yard.sweep(0));
            }
        }
    }

    private static void sweepNothingThere() {
        CHECK.of("22 sweep, a bench without items");
        for (char kind : KINDS) {
            CHECK.leaves("never opened", 0, () -> Yards.mixed(kind), yard -> yard.sweep(2));
            CHECK.leaves("swept", 0, () -> Yards.read(kind, 0), yard -> yard.sweep(0));
        }
    }

    private static void sweepBenches() {
        CHECK.of("22 sweep, IndexOutOfBoundsException if there is no such bench");
        Ranges.eachBench(CHECK, "sweep", 1, (yard, bench) -> {
            yard.drain(bench, 0);
            return yard.sweep(bench);
        });
        Ranges.noSuchBench(CHECK, "sweep", Splityard::sweep);
    }

    // Promise 23.

    private static void isReadOfNumbersAlone() {
        CHECK.of("23 isRead, only numbers, and these are the part that was opened");
        for (char kind : KINDS) {
            for (int many : new int[] {1, 2, 48}) {
                CHECK.leaves("all of " + many, true, () -> Yards.read(kind, many), yard -> yard.isRead(0));
            }
            Splityard yard = Yards.laid(kind, 0, 9);
            yard.open(0, kind, 0, 4, 7);
            yard.crumble(0, 1);
            CHECK.same("the numbers", "n5 n6 n7", Picture.drained(yard, 0));
            yard.sweep(0);
            CHECK.same("a part of a row", true, yard.isRead(0));
        }
    }

    private static void isReadWithAPieceLeft() {
        CHECK.of("23 isRead, not with a piece or an iterator, be it empty");
        for (char kind : KINDS) {
            for (int many : new int[] {1, 2, 48}) {
                CHECK.leaves("unread", false, () -> Yards.opened(kind, many), yard -> yard.isRead(0));
                CHECK.leaves("with an empty piece", false, () -> {
                    Splityard yard = Yards.opened(kind, many);
                    yard.drain(0, 0);
                    return yard;
                }, yard -> yard.isRead(0));
            }
            CHECK.leaves("half read", false, () -> Yards.mixed(kind), yard -> yard.isRead(3));
        }
        for (char kind : ITERATED) {
            Splityard yard = Yards.iterated(kind, 2);
            CHECK.same("an iterator", false, yard.isRead(0));
            yard.drain(0, 0);
            CHECK.same("an empty iterator", false, yard.isRead(0));
            yard.sweep(0);
            CHECK.same("no iterator", true, yard.isRead(0));
        }
    }

    private static void isReadSeesAnotherNumber() throws ReflectiveOperationException {
        CHECK.of("23 isRead, not with numbers that are not the part");
        for (char kind : KINDS) {
            for (int item = 0; item < 3; item++) {
                Splityard yard = Yards.read(kind, 3);
                Faults.set(yard, 0, "numbers", item, 99);
                CHECK.same("another number " + item, false, yard.isRead(0));
            }
        }
    }

    private static void isReadWhateverTheRowBecame() {
        CHECK.of("23 isRead, whatever became of the row");
        for (char kind : KINDS) {
            for (int many : new int[] {0, 1, 2, 48}) {
                Splityard yard = Yards.read(kind, 2);
                yard.lay(kind, 0, many, 77, -1);
                CHECK.same("a row of " + many, true, yard.isRead(0));
            }
        }
    }

    private static void isReadEmptyPart() {
        CHECK.of("23 isRead, of an empty part, as soon as its piece was swept");
        for (char kind : KINDS) {
            CHECK.leaves("opened", false, () -> Yards.opened(kind, 0), yard -> yard.isRead(0));
            CHECK.leaves("swept", true, () -> Yards.read(kind, 0), yard -> yard.isRead(0));
        }
    }

    private static void isReadNeverOpened() {
        CHECK.of("23 isRead, also true of one that was never opened");
        for (int bench : new int[] {0, 1, 2, 4, 5}) {
            CHECK.leaves("bench " + bench, true, () -> Yards.mixed('l'), yard -> yard.isRead(bench));
        }
    }

    private static void isReadBenches() {
        CHECK.of("23 isRead, IndexOutOfBoundsException if there is no such bench");
        Ranges.eachBench(CHECK, "isRead", false, Splityard::isRead);
        Ranges.noSuchBench(CHECK, "isRead", Splityard::isRead);
    }
}
