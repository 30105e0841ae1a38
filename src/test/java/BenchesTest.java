/** Promises 7 to 15: benches, and what they tell of their items. */
public final class BenchesTest {
    private static final Class<IllegalArgumentException> ARGUMENT = IllegalArgumentException.class;
    private static final Class<IndexOutOfBoundsException> INDEX = IndexOutOfBoundsException.class;
    private static final Class<IllegalStateException> STATE = IllegalStateException.class;
    private static final int[] NO_BENCHES = {-1, 6, Integer.MIN_VALUE, Integer.MAX_VALUE};
    private static final Check CHECK = new Check("BenchesTest");

    public static void main(String[] args) {
        open();
        openCopies();
        openRefuses();
        openAll();
        noSuchBench();
        noSuchItem();
        items();
        kindOfGivenAndLeft();
        ahead();
        has();
        isExact();
        CHECK.end();
    }

    /** Bench 0 with three numbers, an iterator of 2, a piece of 2 and a piece of 5. */
    private static Splityard mixed(char kind) {
        Splityard yard = new Splityard();
        yard.lay(kind, 0, 12, 100, 1);
        yard.openAll(0, kind, 0);
        yard.step(0, 0);
        yard.step(0, 1);
        yard.step(0, 2);
        yard.split(0, 3);
        yard.split(0, 3);
        yard.iterate(0, 3);
        return yard;
    }

    private static void open() {
        Splityard yard = new Splityard();
        for (char kind : new char[] {'i', 'l', 'o'}) {
            yard.lay(kind, 2, 10, 5, 3);
            CHECK.same("open a middle part", 4, yard.open(5, kind, 2, 3, 7));
            CHECK.same("opened", "p4", Check.bench(yard, 5));
            yard.drain(5, 0);
            CHECK.same("opened numbers", "n14 n17 n20 n23 p0", Check.bench(yard, 5));
            CHECK.same("open all places", 10, yard.open(5, kind, 2, 0, 10));
            CHECK.same("what was on it is gone", "p10", Check.bench(yard, 5));
            CHECK.same("open nothing", 0, yard.open(5, kind, 2, 10, 10));
            CHECK.same("an empty part has a piece", "p0", Check.bench(yard, 5));
        }
        CHECK.same("open nothing of an empty row", 0, yard.open(1, 'i', 0, 0, 0));
        CHECK.same("an empty part has a piece", "p0", Check.bench(yard, 1));
        CHECK.same("other benches stay", 0, yard.items(0));
    }

    private static void openCopies() {
        Splityard yard = new Splityard();
        yard.lay('i', 0, 3, 1, 1);
        yard.openAll(0, 'i', 0);
        yard.open(1, 'i', 0, 1, 3);
        yard.turn('i', 0);
        yard.lay('i', 0, 1, 99, 0);
        yard.drain(0, 0);
        yard.drain(1, 0);
        CHECK.same("numbers as they were", "n1 n2 n3 p0", Check.bench(yard, 0));
        CHECK.same("numbers as they were", "n2 n3 p0", Check.bench(yard, 1));
    }

    private static void openRefuses() {
        Splityard yard = new Splityard();
        yard.lay('i', 0, 4, 1, 1);
        yard.open(0, 'i', 0, 1, 3);
        CHECK.refused("open no kind", ARGUMENT, yard, () -> yard.open(9, 'x', 9, -1, 9));
        CHECK.refused("open no row", INDEX, yard, () -> yard.open(0, 'i', 4, 0, 0));
        CHECK.refused("open no row", INDEX, yard, () -> yard.open(0, 'i', -1, 0, 0));
        CHECK.refused("open from below 0", INDEX, yard, () -> yard.open(0, 'i', 0, -1, 2));
        CHECK.refused("open from above to", INDEX, yard, () -> yard.open(0, 'i', 0, 3, 2));
        CHECK.refused("open to above length", INDEX, yard, () -> yard.open(0, 'i', 0, 0, 5));
        CHECK.refused("open behind", INDEX, yard, () -> yard.open(0, 'i', 0, 5, 5));
        CHECK.refused("open far", INDEX, yard,
                () -> yard.open(0, 'i', 0, Integer.MIN_VALUE, Integer.MAX_VALUE));
        yard.drain(0, 0);
        CHECK.same("the part as it was", "n2 n3 p0", Check.bench(yard, 0));
    }

    private static void openAll() {
        Splityard yard = new Splityard();
        CHECK.same("openAll of an empty row", 0, yard.openAll(3, 'o', 1));
        CHECK.same("openAll of an empty row", "p0", Check.bench(yard, 3));
        yard.lay('o', 1, 48, -1, -1);
        CHECK.same("openAll of 48", 48, yard.openAll(3, 'o', 1));
        CHECK.same("openAll of 48", "p48", Check.bench(yard, 3));
        yard.drain(3, 0);
        CHECK.same("the last of 48", -48L, yard.given(3, 47));
        CHECK.same("openAll again", 48, yard.openAll(3, 'o', 1));
        CHECK.same("what was on it is gone", "p48", Check.bench(yard, 3));
        CHECK.refused("openAll no kind", ARGUMENT, yard, () -> yard.openAll(6, 'x', 4));
        CHECK.refused("openAll no row", INDEX, yard, () -> yard.openAll(3, 'o', 4));
        CHECK.refused("openAll no row", INDEX, yard, () -> yard.openAll(3, 'o', -1));
    }

    private static void noSuchBench() {
        Splityard yard = new Splityard();
        yard.lay('i', 0, 4, 1, 1);
        for (int bench : NO_BENCHES) {
            CHECK.refused("open", INDEX, yard, () -> yard.open(bench, 'i', 0, 0, 1));
            CHECK.refused("openAll", INDEX, yard, () -> yard.openAll(bench, 'i', 0));
            CHECK.refused("items", INDEX, yard, () -> yard.items(bench));
            CHECK.refused("kindOf", INDEX, yard, () -> yard.kindOf(bench, 0));
            CHECK.refused("given", INDEX, yard, () -> yard.given(bench, 0));
            CHECK.refused("left", INDEX, yard, () -> yard.left(bench, 0));
            CHECK.refused("ahead", INDEX, yard, () -> yard.ahead(bench, 0));
            CHECK.refused("has", INDEX, yard, () -> yard.has(bench, 0, 'x'));
            CHECK.refused("isExact", INDEX, yard, () -> yard.isExact(bench, 0));
        }
    }

    private static void noSuchItem() {
        Splityard yard = mixed('i');
        for (int item : new int[] {-1, 6, 96, Integer.MIN_VALUE, Integer.MAX_VALUE}) {
            CHECK.refused("kindOf", INDEX, yard, () -> yard.kindOf(0, item));
            CHECK.refused("given", INDEX, yard, () -> yard.given(0, item));
            CHECK.refused("left", INDEX, yard, () -> yard.left(0, item));
            CHECK.refused("ahead", INDEX, yard, () -> yard.ahead(0, item));
            CHECK.refused("has", INDEX, yard, () -> yard.has(0, item, 'x'));
            CHECK.refused("isExact", INDEX, yard, () -> yard.isExact(0, item));
        }
        CHECK.refused("kindOf on a bench never opened", INDEX, yard, () -> yard.kindOf(1, 0));
        CHECK.refused("ahead on a bench never opened", INDEX, yard, () -> yard.ahead(1, 0));
    }

    private static void items() {
        Splityard yard = mixed('l');
        CHECK.same("items", 6, yard.items(0));
        CHECK.same("items of a bench never opened", 0, yard.items(5));
        yard.lay('l', 1, 48, 0, 1);
        yard.openAll(2, 'l', 1);
        yard.crumble(2, 1);
        for (int item = 0; item < 96; item += 2) {
            yard.step(2, item);
        }
        CHECK.same("the most items there are", 96, yard.items(2));
        CHECK.same("the last number", 47L, yard.given(2, 94));
        CHECK.same("the last piece", 0, yard.left(2, 95));
    }

    private static void kindOfGivenAndLeft() {
        Splityard yard = mixed('i');
        CHECK.same("the bench", "n100 n101 n102 t2 p2 p5", Check.bench(yard, 0));
        CHECK.same("kindOf a number", 'n', yard.kindOf(0, 0));
        CHECK.same("kindOf an iterator", 't', yard.kindOf(0, 3));
        CHECK.same("kindOf a piece", 'p', yard.kindOf(0, 4));
        CHECK.same("given", 102L, yard.given(0, 2));
        CHECK.refused("given of an iterator", STATE, yard, () -> yard.given(0, 3));
        CHECK.refused("given of a piece", STATE, yard, () -> yard.given(0, 5));
        CHECK.same("left of an iterator", 2, yard.left(0, 3));
        CHECK.same("left of a piece", 5, yard.left(0, 5));
        CHECK.refused("left of a number", STATE, yard, () -> yard.left(0, 0));
        yard.lay('l', 0, 2, Long.MIN_VALUE, -1);
        yard.openAll(1, 'l', 0);
        yard.drain(1, 0);
        CHECK.same("given longs", "n-9223372036854775808 n9223372036854775807 p0", Check.bench(yard, 1));
    }

    private static void ahead() {
        Splityard yard = mixed('l');
        int[] due = {0, 1, 2, 3, 5, 7};
        for (int item = 0; item < due.length; item++) {
            CHECK.same("ahead of item " + item, due[item], yard.ahead(0, item));
        }
        yard.drain(0, 3);
        CHECK.same("ahead of an emptied piece", 5, yard.ahead(0, 5));
        CHECK.same("ahead of what stands behind it", 5, yard.ahead(0, 6));
        yard.open(1, 'l', 0, 6, 9);
        CHECK.same("ahead counts from the part on", 0, yard.ahead(1, 0));
    }

    private static void has() {
        Splityard yard = mixed('i');
        for (char what : new char[] {'o', 's', 'u', 'i', 'a'}) {
            CHECK.same("has " + what, true, yard.has(0, 4, what));
            CHECK.same("has " + what, true, yard.has(0, 5, what));
            CHECK.refused("has of a number", STATE, yard, () -> yard.has(0, 0, what));
            CHECK.refused("has of an iterator", STATE, yard, () -> yard.has(0, 3, what));
        }
        for (char what : new char[] {'x', 'O', 'n', (char) 0, (char) 65535}) {
            CHECK.refused("has nothing such", ARGUMENT, yard, () -> yard.has(0, 4, what));
            CHECK.refused("has nothing such of a number", STATE, yard, () -> yard.has(0, 0, what));
            CHECK.refused("has nothing such of an iterator", STATE, yard, () -> yard.has(0, 3, what));
            CHECK.refused("has nothing such of no item", INDEX, yard, () -> yard.has(0, 6, what));
        }
        yard.drain(0, 5);
        CHECK.same("has of an emptied piece", true, yard.has(0, 10, 'a'));
        Splityard integers = new Splityard();
        integers.openAll(0, 'o', 0);
        CHECK.same("has of a piece of Integer", true, integers.has(0, 0, 'a'));
    }

    private static void isExact() {
        Splityard yard = mixed('l');
        CHECK.same("isExact", true, yard.isExact(0, 4));
        yard.drain(0, 4);
        CHECK.same("isExact of an emptied piece", true, yard.isExact(0, 6));
        CHECK.refused("isExact of a number", STATE, yard, () -> yard.isExact(0, 0));
        CHECK.refused("isExact of an iterator", STATE, yard, () -> yard.isExact(0, 3));
    }
}
