/** The document's 'Terms', sentence by sentence. */
public final class TermsTest {
    private static final Class<ArithmeticException> ARITHMETIC = ArithmeticException.class;
    private static final Class<UnsupportedOperationException> UNSUPPORTED = UnsupportedOperationException.class;
    private static final char[] KINDS = Yards.KINDS;
    private static final char[] OF_INTS = {'i', 'o'};
    private static final long ABOVE_INT = Integer.MAX_VALUE + 1L;
    private static final long BELOW_INT = Integer.MIN_VALUE - 1L;
    private static final Check CHECK = new Check("TermsTest");

    public static void main(String[] args) {
        itemsAreTheNumbersOfThePart();
        splitInTwo();
        piecesOfTheTheorem();
        joinedPieceByPiece();
        threeKinds();
        rows0To3();
        atMost48Numbers();
        rowsEmptyAtFirst();
        numbersOfLong();
        numbersOfInt();
        benches0To5();
        fromAPlaceOnUpToAnother();
        laterRowPlaysNoPart();
        onePieceAtFirst();
        benchNeverOpened();
        numberRightAheadOfItsPiece();
        firstOneRightAheadOfTheOther();
        emptyPieceStaysUntilSwept();
        iteratorIsAPieceToo();
        iteratorIsNotSplit();
        refusedCallsChangeNothing();
        firstDocumentedException();
        fiveHundredAndTwelveCalls();
        CHECK.end();
    }

    private static void itemsAreTheNumbersOfThePart() {
        CHECK.of("whatever steps and splits are made, in whatever sequence, the items are the numbers of the part");
        for (char kind : KINDS) {
            for (int many : new int[] {0, 1, 2, 3, 5, 48}) {
                String due = Picture.bench(Yards.read(kind, many), 0);
                makeAllCalls(kind, many, new int[3], 0, due);
            }
        }
    }

    /** Each sequence of three calls, each being 8 times its item and which of the reading calls it is. */
    private static void makeAllCalls(char kind, int many, int[] calls, int made, String due) {
        if (made == calls.length) {
            Splityard yard = Yards.opened(kind, many);
            for (int call : calls) {
                Check.answer(yard, reader -> read(reader, call % 8, call / 8));
            }
            CHECK.same("isSound behind three calls", true, yard.isSound());
            CHECK.same("what is read behind three calls", due, Picture.drained(yard, 0));
            return;
        }
        for (int call = 0; call < 8 * (made + 2); call++) {
            calls[made] = call;
            makeAllCalls(kind, many, calls, made + 1, due);
        }
    }

    private static Object read(Splityard yard, int which, int item) {
        switch (which) {
            case 0:
                return yard.split(0, item);
            case 1:
                return yard.step(0, item);
            case 2:
                return yard.drain(0, item);
            case 3:
                return yard.iterate(0, item);
            case 4:
                return yard.crumble(0, item + 1);
            case 5:
                return yard.sweep(0);
            case 6:
                return yard.append('l', 3, item);
            default:
                return yard.turn('i', 0);
        }
    }

    private static void splitInTwo() {
        CHECK.of("a split of n, if n is 2 or more: the first n / 2, rounded down, and the others");
        for (char kind : KINDS) {
            CHECK.leaves("of 0", -1, () -> Yards.opened(kind, 0), yard -> yard.split(0, 0));
            CHECK.leaves("of 1", -1, () -> Yards.opened(kind, 1), yard -> yard.split(0, 0));
            int[] others = {2, 3, 4, 5, 47, 48};
            String[] due = {"p1 p1", "p1 p2", "p2 p2", "p2 p3", "p23 p24", "p24 p24"};
            for (int place = 0; place < others.length; place++) {
                Splityard yard = Yards.opened(kind, others[place]);
                yard.split(0, 0);
                CHECK.same("of " + others[place], due[place], Picture.bench(yard, 0));
            }
        }
    }

    private static int pieces(int many, int most) {
        return many <= most ? 1 : pieces(many / 2, most) + pieces(many - many / 2, most);
    }

    private static void piecesOfTheTheorem() {
        CHECK.of("of a piece that is split until none has more than m, come p(n) pieces");
        for (char kind : KINDS) {
            for (int many = 0; many <= 48; many++) {
                for (int most : new int[] {1, 2, 3, 7, 24, 47, 48}) {
                    Splityard yard = Yards.opened(kind, many);
                    for (int item = 0; item < yard.items(0);) {
                        if (yard.left(0, item) > most) {
                            yard.split(0, item);
                        } else {
                            item++;
                        }
                    }
                    CHECK.same("split " + many + " by " + most, pieces(many, most), yard.items(0));
                    CHECK.same("pieces " + many + " by " + most, pieces(many, most), yard.pieces(kind, 0, most));
                }
            }
        }
        CHECK.same("p(n) for n at m", 1, pieces(7, 7));
        CHECK.same("p(n) for n above m", 2, pieces(8, 7));
    }

    private static void joinedPieceByPiece() {
        CHECK.of("what is reckoned and joined piece by piece is what is reckoned number by number");
        for (char kind : KINDS) {
            for (int many : new int[] {0, 1, 2, 3, 47, 48}) {
                for (int most : new int[] {1, 2, 5, 48}) {
                    Splityard yard = new Splityard();
                    yard.lay(kind, 0, many, -40, 1000003);
                    for (char how : new char[] {'s', 'x', 'h', 'f'}) {
                        CHECK.same(how + " of " + many + " by " + most, byNumber(many, how),
                                yard.fold(kind, 0, most, how));
                    }
                }
            }
        }
    }

    private static long byNumber(int many, char how) {
        long told = how == 'f' ? -1 : 0;
        for (int place = 0; place < many; place++) {
            long number = -40 + 1000003L * place;
            told = how == 's' ? told + number : how == 'x' ? told ^ number : how == 'h' ? 31 * told + number : place;
        }
        return told;
    }

    private static void threeKinds() {
        CHECK.of("there are three kinds of rows: i, l, o");
        for (int sign = 0; sign < 65536; sign++) {
            char kind = (char) sign;
            Splityard yard = new Splityard();
            Check.Call[] calls = {
                made -> made.append(kind, 0, 0), made -> made.lay(kind, 0, 2, 0, 0), made -> made.turn(kind, 0),
                made -> made.length(kind, 0), made -> made.number(kind, 0, 0), made -> made.open(0, kind, 0, 0, 1),
                made -> made.openAll(0, kind, 0), made -> made.fold(kind, 0, 1, 's'), made -> made.pieces(kind, 0, 1)
            };
            for (int call = 0; call < calls.length; call++) {
                Object answer = Check.answer(yard, calls[call]);
                boolean refused = answer.equals("throws java.lang.IllegalArgumentException");
                CHECK.same("whether call " + call + " refuses the kind " + sign, "ilo".indexOf(sign) < 0, refused);
            }
        }
    }

    private static void rows0To3() {
        CHECK.of("of each kind there are the rows 0 to 3");
        Splityard yard = new Splityard();
        for (char kind : KINDS) {
            for (int row = 0; row < 4; row++) {
                yard.lay(kind, row, 2, 100 * kind + 10 * row, 1);
            }
        }
        for (char kind : KINDS) {
            for (int row = 0; row < 4; row++) {
                long first = 100 * kind + 10 * row;
                CHECK.same("row " + kind + row, first + " " + (first + 1), Picture.row(yard, kind, row));
            }
        }
        Ranges.noSuchRow(CHECK, "length", Splityard::length);
    }

    private static void atMost48Numbers() {
        CHECK.of("rows of at most 48 numbers each");
        for (char kind : KINDS) {
            Splityard yard = new Splityard();
            for (int many = 1; many <= 48; many++) {
                CHECK.same("append", many, yard.append(kind, 0, many));
            }
            CHECK.same("all of them", Picture.row(Yards.laid(kind, 0, 48), kind, 0), Picture.row(yard, kind, 0));
            CHECK.refused("append a 49th", Ranges.STATE, () -> Yards.laid(kind, 0, 48),
                    full -> full.append(kind, 0, 49));
            CHECK.refused("lay 49", Ranges.ARGUMENT, () -> Yards.laid(kind, 0, 48),
                    full -> full.lay(kind, 0, 49, 0, 0));
        }
    }

    private static void rowsEmptyAtFirst() {
        CHECK.of("rows are empty at first");
        for (char kind : KINDS) {
            for (int row = 0; row < 4; row++) {
                int asked = row;
                CHECK.leaves("length", 0, Yards::fresh, yard -> yard.length(kind, asked));
                CHECK.refused("number", Ranges.INDEX, Yards::fresh, yard -> yard.number(kind, asked, 0));
                CHECK.same("turn", 0, new Splityard().turn(kind, row));
                CHECK.same("openAll", 0, new Splityard().openAll(0, kind, row));
            }
        }
    }

    private static void numbersOfLong() {
        CHECK.of("the numbers of l are from -9223372036854775808 to 9223372036854775807");
        Splityard yard = new Splityard();
        yard.append('l', 0, -9223372036854775808L);
        yard.append('l', 0, 9223372036854775807L);
        yard.openAll(0, 'l', 0);
        yard.drain(0, 0);
        CHECK.same("number", "-9223372036854775808 9223372036854775807", Picture.row(yard, 'l', 0));
        CHECK.same("given", "n-9223372036854775808 n9223372036854775807 p0", Picture.bench(yard, 0));
    }

    private static void numbersOfInt() {
        CHECK.of("those of i and o are from -2147483648 to 2147483647");
        for (char kind : OF_INTS) {
            Splityard yard = new Splityard();
            yard.append(kind, 0, -2147483648L);
            yard.append(kind, 0, 2147483647L);
            yard.openAll(0, kind, 0);
            yard.drain(0, 0);
            CHECK.same("number", "-2147483648 2147483647", Picture.row(yard, kind, 0));
            CHECK.same("given", "n-2147483648 n2147483647 p0", Picture.bench(yard, 0));
            CHECK.refused("one less", Ranges.ARGUMENT, Yards::fresh, none -> none.append(kind, 0, -2147483649L));
            CHECK.refused("one more", Ranges.ARGUMENT, Yards::fresh, none -> none.append(kind, 0, 2147483648L));
        }
    }

    private static void benches0To5() {
        CHECK.of("there are the benches 0 to 5");
        Splityard yard = Yards.laid('i', 0, 6);
        for (int bench = 0; bench < 6; bench++) {
            yard.open(bench, 'i', 0, bench, 6);
        }
        for (int bench = 0; bench < 6; bench++) {
            CHECK.same("bench " + bench, "p" + (6 - bench), Picture.bench(yard, bench));
            yard.step(bench, 0);
            CHECK.same("its first number", bench + 1L, yard.given(bench, 0));
        }
        Ranges.noSuchBench(CHECK, "items", Splityard::items);
    }

    private static void fromAPlaceOnUpToAnother() {
        CHECK.of("a bench is opened for a part of a row, from a place on, up to, not with, another one");
        for (char kind : KINDS) {
            Splityard yard = Yards.laid(kind, 0, 5);
            yard.open(0, kind, 0, 1, 3);
            CHECK.same("places 1 and 2", "n2 n3", Picture.drained(yard, 0));
            yard.open(0, kind, 0, 0, 1);
            CHECK.same("place 0", "n1", Picture.drained(yard, 0));
            yard.open(0, kind, 0, 4, 5);
            CHECK.same("place 4", "n5", Picture.drained(yard, 0));
            yard.open(0, kind, 0, 2, 2);
            CHECK.same("no place", "", Picture.drained(yard, 0));
        }
    }

    private static void laterRowPlaysNoPart() {
        CHECK.of("what becomes of the row later plays no part for the bench");
        for (char kind : KINDS) {
            Check.Call[] changes = {
                yard -> yard.append(kind, 0, 99), yard -> yard.turn(kind, 0), yard -> yard.lay(kind, 0, 0, 0, 0),
                yard -> yard.lay(kind, 0, 4, -7, 0), yard -> yard.lay(kind, 0, 48, -7, 0)
            };
            for (Check.Call change : changes) {
                Splityard unread = Yards.opened(kind, 4);
                change.answer(unread);
                CHECK.same("a piece that was there", "n1 n2 n3 n4", Picture.drained(unread, 0));
                Splityard begun = Yards.opened(kind, 4);
                begun.split(0, 0);
                begun.step(0, 0);
                change.answer(begun);
                CHECK.same("two pieces and a number", "n1 p1 p2", Picture.bench(begun, 0));
                CHECK.same("isSound", true, begun.isSound());
                CHECK.same("share", 0.25f, begun.share(0));
                CHECK.same("read to the end", "n1 n2 n3 n4", Picture.drained(begun, 0));
                begun.sweep(0);
                CHECK.same("isRead", true, begun.isRead(0));
            }
        }
    }

    private static void onePieceAtFirst() {
        CHECK.of("at first one piece that has all numbers of the part left");
        for (char kind : KINDS) {
            for (int many : new int[] {0, 1, 2, 48}) {
                Splityard yard = Yards.opened(kind, many);
                CHECK.same("its items", "p" + many, Picture.bench(yard, 0));
                CHECK.same("ahead of it", 0, yard.ahead(0, 0));
            }
        }
    }

    private static void benchNeverOpened() {
        CHECK.of("a bench that was never opened has no items, and its part is empty");
        CHECK.leaves("items", 0, Yards::fresh, yard -> yard.items(0));
        CHECK.leaves("crumble", 0, Yards::fresh, yard -> yard.crumble(0, 1));
        CHECK.leaves("sweep", 0, Yards::fresh, yard -> yard.sweep(0));
        CHECK.leaves("isRead", true, Yards::fresh, yard -> yard.isRead(0));
        CHECK.refused("share", ARITHMETIC, Yards::fresh, yard -> yard.share(0));
        CHECK.refused("meanLeft", ARITHMETIC, Yards::fresh, yard -> yard.meanLeft(0));
        Ranges.ItemCall[] calls = {
            Splityard::kindOf, Splityard::given, Splityard::left, Splityard::ahead,
            (yard, bench, item) -> yard.has(bench, item, 'a'), Splityard::isExact, Splityard::split,
            Splityard::step, Splityard::drain, Splityard::iterate, Splityard::hasNext
        };
        for (Ranges.ItemCall call : calls) {
            for (int bench = 0; bench < 6; bench++) {
                int asked = bench;
                CHECK.refused("item 0 of bench " + bench, Ranges.INDEX, Yards::fresh,
                        yard -> call.answer(yard, asked, 0));
            }
        }
    }

    private static void numberRightAheadOfItsPiece() {
        CHECK.of("a number becomes an item right ahead of the piece, behind those that it gave earlier");
        for (char kind : KINDS) {
            Splityard yard = Yards.opened(kind, 6);
            yard.split(0, 0);
            yard.step(0, 0);
            CHECK.same("the first piece, once", "n1 p2 p3", Picture.bench(yard, 0));
            yard.step(0, 2);
            CHECK.same("the last piece, once", "n1 p2 n4 p2", Picture.bench(yard, 0));
            yard.step(0, 1);
            CHECK.same("the first piece, twice", "n1 n2 p1 n4 p2", Picture.bench(yard, 0));
            yard.drain(0, 4);
            CHECK.same("the last piece, to the end", "n1 n2 p1 n4 n5 n6 p0", Picture.bench(yard, 0));
            yard.drain(0, 2);
            CHECK.same("the first piece, to the end", "n1 n2 n3 p0 n4 n5 n6 p0", Picture.bench(yard, 0));
        }
    }

    private static void firstOneRightAheadOfTheOther() {
        CHECK.of("a split puts the first one of both pieces right ahead of the other one");
        for (char kind : KINDS) {
            Splityard yard = Yards.opened(kind, 9);
            yard.step(0, 0);
            yard.split(0, 1);
            CHECK.same("behind a number", "n1 p4 p4", Picture.bench(yard, 0));
            yard.step(0, 1);
            CHECK.same("the first one has the first numbers", "n1 n2 p3 p4", Picture.bench(yard, 0));
            yard.split(0, 2);
            CHECK.same("ahead of a piece", "n1 n2 p1 p2 p4", Picture.bench(yard, 0));
            yard.drain(0, 3);
            CHECK.same("the other one has the others", "n1 n2 p1 n4 n5 p0 p4", Picture.bench(yard, 0));
        }
    }

    private static void emptyPieceStaysUntilSwept() {
        CHECK.of("a piece that has no numbers left stays until it is swept");
        for (char kind : KINDS) {
            Splityard yard = Yards.opened(kind, 2);
            yard.split(0, 0);
            yard.drain(0, 0);
            yard.step(0, 2);
            CHECK.same("read by drain and by step", "n1 p0 n2 p0", Picture.bench(yard, 0));
            yard.step(0, 1);
            yard.drain(0, 3);
            yard.split(0, 1);
            yard.crumble(0, 1);
            yard.isSound();
            CHECK.same("whatever else is called", "n1 p0 n2 p0", Picture.bench(yard, 0));
            yard.sweep(0);
            CHECK.same("swept", "n1 n2", Picture.bench(yard, 0));
        }
    }

    private static void iteratorIsAPieceToo() {
        CHECK.of("a piece can become an iterator, which is a piece, too");
        for (char kind : Yards.ITERATED) {
            Splityard yard = Yards.iterated(kind, 3);
            CHECK.same("left", 3, yard.left(0, 0));
            CHECK.same("step", true, yard.step(0, 0));
            CHECK.same("ahead", 1, yard.ahead(0, 1));
            CHECK.same("meanLeft", 2.0, yard.meanLeft(0));
            CHECK.same("drain", 2, yard.drain(0, 1));
            CHECK.same("isRead", false, yard.isRead(0));
            CHECK.same("sweep", 1, yard.sweep(0));
            CHECK.same("isRead, swept", true, yard.isRead(0));
        }
    }

    private static void iteratorIsNotSplit() {
        CHECK.of("an iterator is not split, and has no characteristics");
        Ranges.notOfAnIterator(CHECK, "split", Splityard::split);
        Ranges.notOfAnIterator(CHECK, "has", (yard, bench, item) -> yard.has(bench, item, 'o'));
        Ranges.notOfAnIterator(CHECK, "isExact", Splityard::isExact);
        for (char kind : Yards.ITERATED) {
            CHECK.leaves("crumble", 0, () -> Yards.iterated(kind, 48), yard -> yard.crumble(0, 1));
        }
    }

    private static void refusedCallsChangeNothing() {
        CHECK.of("a method that throws an exception changes nothing");
        for (char kind : Yards.ITERATED) {
            Splityard yard = Yards.mixed(kind);
            refuses(yard, refusedOfRows(kind));
            refuses(yard, refusedOfBenches(kind));
            refuses(yard, refusedOfItems());
            CHECK.same("all answers behind them", Picture.of(Yards.mixed(kind)), Picture.of(yard));
        }
    }

    private static void refuses(Splityard yard, Check.Call[] calls) {
        for (int call = 0; call < calls.length; call++) {
            String answer = String.valueOf(Check.answer(yard, calls[call]));
            CHECK.same("whether call " + call + " is refused", true, answer.startsWith("throws "));
        }
    }

    private static Check.Call[] refusedOfRows(char kind) {
        return new Check.Call[] {
            yard -> yard.append(kind, 4, 1), yard -> yard.append('x', 1, 1), yard -> yard.append('o', 1, ABOVE_INT),
            yard -> yard.append('i', 1, BELOW_INT), yard -> yard.lay(kind, 1, 49, 0, 0),
            yard -> yard.lay(kind, 1, -1, 0, 0), yard -> yard.lay(kind, -1, 2, 0, 0), yard -> yard.turn(kind, 4),
            yard -> yard.turn('x', 1), yard -> yard.length(kind, -1), yard -> yard.number(kind, 1, 5),
            yard -> yard.fold(kind, 1, 0, 's'), yard -> yard.fold(kind, 1, 1, 'z'), yard -> yard.pieces(kind, 1, 49)
        };
    }

    private static Check.Call[] refusedOfBenches(char kind) {
        return new Check.Call[] {
            yard -> yard.open(3, kind, 1, 0, 6), yard -> yard.open(3, kind, 1, 2, 1),
            yard -> yard.open(3, kind, 1, -1, 1), yard -> yard.open(3, kind, 4, 0, 0),
            yard -> yard.open(3, 'x', 1, 0, 1), yard -> yard.open(6, kind, 1, 0, 1),
            yard -> yard.openAll(3, kind, 4), yard -> yard.openAll(3, 'x', 1), yard -> yard.openAll(-1, kind, 1),
            yard -> yard.crumble(3, 0), yard -> yard.crumble(3, 49), yard -> yard.crumble(6, 1),
            yard -> yard.sweep(-1), yard -> yard.isRead(6), yard -> yard.share(0), yard -> yard.meanLeft(0)
        };
    }

    private static Check.Call[] refusedOfItems() {
        return new Check.Call[] {
            yard -> yard.kindOf(3, 7), yard -> yard.given(3, 2), yard -> yard.left(3, 0), yard -> yard.ahead(3, -1),
            yard -> yard.has(3, 2, 'a'), yard -> yard.has(3, 6, 'x'), yard -> yard.isExact(3, 0),
            yard -> yard.split(3, 2), yard -> yard.split(3, 0), yard -> yard.split(3, 7), yard -> yard.step(3, 0),
            yard -> yard.step(3, 7), yard -> yard.drain(3, 4), yard -> yard.drain(3, -1), yard -> yard.iterate(3, 2),
            yard -> yard.iterate(3, 0), yard -> yard.hasNext(3, 6), yard -> yard.hasNext(0, 0)
        };
    }

    private static void firstDocumentedException() {
        CHECK.of("if several exceptions apply, the one that is documented first is thrown");
        refusesRows();
        refusesItems('i', 2);
        refusesItems('o', 0);
        Check.Recipe mixed = () -> Yards.mixed('o');
        CHECK.refused("crumble: bench, size", Ranges.INDEX, mixed, yard -> yard.crumble(6, 0));
        CHECK.refused("iterate: bench, Integer", Ranges.INDEX, mixed, yard -> yard.iterate(6, 6));
        CHECK.refused("iterate: item, Integer", Ranges.INDEX, mixed, yard -> yard.iterate(3, 7));
        CHECK.refused("iterate: number, Integer", Ranges.STATE, mixed, yard -> yard.iterate(3, 1));
        CHECK.refused("iterate: Integer", UNSUPPORTED, mixed, yard -> yard.iterate(3, 6));
    }

    private static void refusesRows() {
        Check.Recipe mixed = () -> Yards.mixed('i');
        Check.Recipe full = () -> Yards.laid('i', 0, 48);
        CHECK.refused("append: kind, row", Ranges.ARGUMENT, mixed, yard -> yard.append('x', 4, 0));
        CHECK.refused("append: number, row", Ranges.ARGUMENT, mixed, yard -> yard.append('i', -1, ABOVE_INT));
        CHECK.refused("append: number, full", Ranges.ARGUMENT, full, yard -> yard.append('i', 0, BELOW_INT));
        CHECK.refused("lay: kind, row", Ranges.ARGUMENT, mixed, yard -> yard.lay('x', 4, 1, 0, 0));
        CHECK.refused("lay: many, row", Ranges.ARGUMENT, mixed, yard -> yard.lay('i', 4, 49, 0, 0));
        CHECK.refused("turn: kind, row", Ranges.ARGUMENT, mixed, yard -> yard.turn('x', 4));
        CHECK.refused("length: kind, row", Ranges.ARGUMENT, mixed, yard -> yard.length('x', 4));
        CHECK.refused("number: kind, row, place", Ranges.ARGUMENT, mixed, yard -> yard.number('x', 4, -1));
        CHECK.refused("open: kind, bench, row, places", Ranges.ARGUMENT, mixed, yard -> yard.open(6, 'x', 4, 2, 1));
        CHECK.refused("openAll: kind, bench, row", Ranges.ARGUMENT, mixed, yard -> yard.openAll(6, 'x', 4));
        CHECK.refused("fold: kind, row", Ranges.ARGUMENT, mixed, yard -> yard.fold('x', 4, 1, 's'));
        CHECK.refused("fold: how, row", Ranges.ARGUMENT, mixed, yard -> yard.fold('i', 4, 1, 'o'));
        CHECK.refused("fold: size, row", Ranges.ARGUMENT, mixed, yard -> yard.fold('i', 4, 0, 's'));
        CHECK.refused("pieces: kind, row", Ranges.ARGUMENT, mixed, yard -> yard.pieces('x', 4, 1));
        CHECK.refused("pieces: size, row", Ranges.ARGUMENT, mixed, yard -> yard.pieces('i', 4, 0));
    }

    /** Of an item that is a number or an iterator, and of one that is none. */
    private static void refusesItems(char kind, int item) {
        Check.Recipe mixed = () -> Yards.mixed(kind);
        CHECK.refused("has: bench, what", Ranges.INDEX, mixed, yard -> yard.has(6, item, 'x'));
        CHECK.refused("has: item, what", Ranges.INDEX, mixed, yard -> yard.has(3, 7, 'x'));
        CHECK.refused("has: state, what", Ranges.STATE, mixed, yard -> yard.has(3, item, 'x'));
    }

    private static void fiveHundredAndTwelveCalls() {
        CHECK.of("an object is used for 512 calls");
        for (char kind : KINDS) {
            Splityard yard = new Splityard();
            int calls = 0;
            while (calls < 507) {
                yard.lay(kind, 0, 48, calls, 1);
                yard.openAll(0, kind, 0);
                yard.crumble(0, 1);
                calls += 3;
            }
            CHECK.same("calls made", 507, calls);
            CHECK.same("the 508th", 1, yard.left(0, 47));
            CHECK.same("the 509th", true, yard.step(0, 47));
            CHECK.same("the 510th", 504 + 47L, yard.given(0, 47));
            CHECK.same("the 511th", true, yard.isSound());
            CHECK.same("the 512th", 49, yard.items(0));
        }
    }
}
