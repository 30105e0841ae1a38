/** Promises 16 to 23: pieces are split and read. */
public final class ReadingTest {
    private static final Class<IllegalArgumentException> ARGUMENT = IllegalArgumentException.class;
    private static final Class<IndexOutOfBoundsException> INDEX = IndexOutOfBoundsException.class;
    private static final Class<IllegalStateException> STATE = IllegalStateException.class;
    private static final Class<UnsupportedOperationException> UNSUPPORTED = UnsupportedOperationException.class;
    private static final char[] KINDS = {'i', 'l', 'o'};
    private static final Check CHECK = new Check("ReadingTest");

    public static void main(String[] args) {
        split();
        splitRefuses();
        step();
        drain();
        stepAndDrainRefuse();
        iterate();
        iterateRefuses();
        hasNext();
        crumble();
        crumbleLeavesIterators();
        crumbleRefuses();
        sweep();
        isRead();
        wrongBenchesAndItems();
        CHECK.end();
    }

    private static void split() {
        for (char kind : KINDS) {
            Splityard yard = Check.opened(kind, 7);
            CHECK.same("split 7", 3, yard.split(0, 0));
            CHECK.same("split 7", "p3 p4", Check.bench(yard, 0));
            CHECK.same("split 4", 2, yard.split(0, 1));
            CHECK.same("split 3", 1, yard.split(0, 0));
            CHECK.same("split thrice", "p1 p2 p2 p2", Check.bench(yard, 0));
            yard.drain(0, 3);
            yard.drain(0, 1);
            CHECK.same("split numbers", "p1 n2 n3 p0 p2 n6 n7 p0", Check.bench(yard, 0));
            CHECK.same("split 1", -1, yard.split(0, 0));
            CHECK.same("split 0", -1, yard.split(0, 3));
            CHECK.same("split nothing", "p1 n2 n3 p0 p2 n6 n7 p0", Check.bench(yard, 0));
        }
    }

    private static void splitRefuses() {
        Splityard yard = Check.opened('i', 5);
        yard.step(0, 0);
        yard.split(0, 1);
        yard.iterate(0, 1);
        CHECK.refused("split a number", STATE, yard, () -> yard.split(0, 0));
        CHECK.refused("split an iterator", STATE, yard, () -> yard.split(0, 1));
        yard.drain(0, 1);
        CHECK.refused("split an empty iterator", STATE, yard, () -> yard.split(0, 3));
    }

    private static void step() {
        for (char kind : KINDS) {
            Splityard yard = Check.opened(kind, 3);
            CHECK.same("step", true, yard.step(0, 0));
            CHECK.same("stepped", "n1 p2", Check.bench(yard, 0));
            CHECK.same("step", true, yard.step(0, 1));
            CHECK.same("stepped", "n1 n2 p1", Check.bench(yard, 0));
            CHECK.same("step", true, yard.step(0, 2));
            CHECK.same("step with none left", false, yard.step(0, 3));
            CHECK.same("an empty piece stays", "n1 n2 n3 p0", Check.bench(yard, 0));
        }
        Splityard yard = Check.opened('l', 4);
        yard.split(0, 0);
        yard.iterate(0, 1);
        CHECK.same("step an iterator", true, yard.step(0, 1));
        CHECK.same("right ahead of its piece", "p2 n3 t1", Check.bench(yard, 0));
        yard.step(0, 2);
        CHECK.same("step an empty iterator", false, yard.step(0, 3));
        CHECK.same("it stays an iterator", "p2 n3 n4 t0", Check.bench(yard, 0));
    }

    private static void drain() {
        for (char kind : KINDS) {
            Splityard yard = Check.opened(kind, 6);
            yard.step(0, 0);
            yard.split(0, 1);
            CHECK.same("drain the other half", 3, yard.drain(0, 2));
            CHECK.same("drained", "n1 p2 n4 n5 n6 p0", Check.bench(yard, 0));
            CHECK.same("drain the first half", 2, yard.drain(0, 1));
            CHECK.same("drained", "n1 n2 n3 p0 n4 n5 n6 p0", Check.bench(yard, 0));
            CHECK.same("drain an empty piece", 0, yard.drain(0, 3));
            CHECK.same("nothing came", 8, yard.items(0));
        }
        Splityard yard = Check.opened('i', 48);
        yard.iterate(0, 0);
        CHECK.same("drain an iterator", 48, yard.drain(0, 0));
        CHECK.same("it stays an iterator", 't', yard.kindOf(0, 48));
        CHECK.same("its last number", 48L, yard.given(0, 47));
    }

    private static void stepAndDrainRefuse() {
        Splityard yard = Check.opened('o', 2);
        yard.step(0, 0);
        CHECK.refused("step a number", STATE, yard, () -> yard.step(0, 0));
        CHECK.refused("drain a number", STATE, yard, () -> yard.drain(0, 0));
    }

    private static void iterate() {
        for (char kind : new char[] {'i', 'l'}) {
            Splityard yard = Check.opened(kind, 5);
            yard.step(0, 0);
            CHECK.same("iterate", 4, yard.iterate(0, 1));
            CHECK.same("iterated", "n1 t4", Check.bench(yard, 0));
            yard.drain(0, 1);
            CHECK.same("an iterator reads on", "n1 n2 n3 n4 n5 t0", Check.bench(yard, 0));
            yard.open(1, kind, 0, 2, 2);
            CHECK.same("iterate an empty piece", 0, yard.iterate(1, 0));
            CHECK.same("iterated an empty piece", "t0", Check.bench(yard, 1));
        }
    }

    private static void iterateRefuses() {
        Splityard yard = Check.opened('i', 4);
        yard.step(0, 0);
        yard.iterate(0, 1);
        CHECK.refused("iterate a number", STATE, yard, () -> yard.iterate(0, 0));
        CHECK.refused("iterate an iterator", STATE, yard, () -> yard.iterate(0, 1));
        yard.lay('o', 0, 4, 1, 1);
        yard.openAll(1, 'o', 0);
        yard.step(1, 0);
        CHECK.refused("iterate a piece of Integer", UNSUPPORTED, yard, () -> yard.iterate(1, 1));
        CHECK.refused("iterate a number of Integer", STATE, yard, () -> yard.iterate(1, 0));
        CHECK.refused("iterate no item of Integer", INDEX, yard, () -> yard.iterate(1, 2));
        yard.openAll(2, 'o', 3);
        CHECK.refused("iterate an empty piece of Integer", UNSUPPORTED, yard, () -> yard.iterate(2, 0));
        yard.openAll(1, 'i', 0);
        CHECK.same("iterate behind another opening", 4, yard.iterate(1, 0));
    }

    private static void hasNext() {
        Splityard yard = Check.opened('l', 3);
        yard.split(0, 0);
        yard.iterate(0, 0);
        CHECK.same("hasNext", true, yard.hasNext(0, 0));
        CHECK.same("hasNext changes nothing", "t1 p2", Check.bench(yard, 0));
        yard.step(0, 0);
        CHECK.same("hasNext at the end", false, yard.hasNext(0, 1));
        CHECK.refused("hasNext of a number", STATE, yard, () -> yard.hasNext(0, 0));
        CHECK.refused("hasNext of a piece", STATE, yard, () -> yard.hasNext(0, 2));
    }

    private static void crumble() {
        for (char kind : KINDS) {
            Splityard yard = Check.opened(kind, 7);
            CHECK.same("crumble to 7", 0, yard.crumble(0, 7));
            CHECK.same("crumble to 2", 3, yard.crumble(0, 2));
            CHECK.same("crumbled to 2", "p1 p2 p2 p2", Check.bench(yard, 0));
            yard.step(0, 1);
            CHECK.same("crumble to 1", 2, yard.crumble(0, 1));
            CHECK.same("crumbled to 1", "p1 n2 p1 p1 p1 p1 p1", Check.bench(yard, 0));
            CHECK.same("crumble again", 0, yard.crumble(0, 1));
        }
        Splityard yard = Check.opened('i', 48);
        CHECK.same("crumble 48 to 48", 0, yard.crumble(0, 48));
        CHECK.same("crumble 48 to 5", 15, yard.crumble(0, 5));
        CHECK.same("crumbled 48 to 5", "p3 p3 p3 p3 p3 p3 p3 p3 p3 p3 p3 p3 p3 p3 p3 p3", Check.bench(yard, 0));
        CHECK.same("crumble 48 to 1", 32, yard.crumble(0, 1));
        CHECK.same("pieces of 48", 48, yard.items(0));
        CHECK.same("crumble a bench never opened", 0, yard.crumble(5, 1));
        yard.open(1, 'i', 0, 0, 0);
        CHECK.same("crumble an empty part", 0, yard.crumble(1, 1));
        CHECK.same("crumbled an empty part", "p0", Check.bench(yard, 1));
    }

    private static void crumbleLeavesIterators() {
        Splityard yard = Check.opened('i', 16);
        yard.split(0, 0);
        yard.iterate(0, 0);
        CHECK.same("crumble behind an iterator", 3, yard.crumble(0, 2));
        CHECK.same("the iterator stays", "t8 p2 p2 p2 p2", Check.bench(yard, 0));
    }

    private static void crumbleRefuses() {
        Splityard yard = Check.opened('i', 16);
        for (int most : new int[] {0, 49, -1, Integer.MIN_VALUE, Integer.MAX_VALUE}) {
            CHECK.refused("crumble to " + most, ARGUMENT, yard, () -> yard.crumble(0, most));
            CHECK.refused("crumble a new bench to " + most, ARGUMENT, yard, () -> yard.crumble(1, most));
            CHECK.refused("crumble no bench to " + most, INDEX, yard, () -> yard.crumble(6, most));
        }
    }

    private static void sweep() {
        Splityard yard = Check.opened('l', 6);
        CHECK.same("sweep nothing", 0, yard.sweep(0));
        yard.split(0, 0);
        yard.split(0, 0);
        yard.iterate(0, 1);
        yard.drain(0, 1);
        yard.step(0, 4);
        yard.drain(0, 0);
        CHECK.same("ahead of the sweep", "n1 p0 n2 n3 t0 n4 p2", Check.bench(yard, 0));
        CHECK.same("sweep", 2, yard.sweep(0));
        CHECK.same("swept", "n1 n2 n3 n4 p2", Check.bench(yard, 0));
        yard.drain(0, 4);
        CHECK.same("read behind the sweep", "n1 n2 n3 n4 n5 n6 p0", Check.bench(yard, 0));
        CHECK.same("sweep the last piece", 1, yard.sweep(0));
        CHECK.same("sweep again", 0, yard.sweep(0));
        CHECK.same("sweep a bench never opened", 0, yard.sweep(3));
        yard.openAll(3, 'i', 0);
        CHECK.same("sweep an empty part", 1, yard.sweep(3));
        CHECK.same("swept an empty part", 0, yard.items(3));
    }

    private static void isRead() {
        Splityard yard = Check.opened('i', 3);
        CHECK.same("isRead, opened", false, yard.isRead(0));
        yard.step(0, 0);
        CHECK.same("isRead, begun", false, yard.isRead(0));
        yard.drain(0, 1);
        CHECK.same("isRead, with an empty piece", false, yard.isRead(0));
        yard.lay('i', 0, 1, 77, 0);
        yard.sweep(0);
        CHECK.same("isRead, swept", true, yard.isRead(0));
        CHECK.same("isRead, never opened", true, yard.isRead(1));
        yard.openAll(1, 'o', 0);
        CHECK.same("isRead, an empty part", false, yard.isRead(1));
        yard.sweep(1);
        CHECK.same("isRead, an empty part swept", true, yard.isRead(1));
    }

    private static void wrongBenchesAndItems() {
        Splityard yard = Check.opened('i', 3);
        for (int bench : new int[] {-1, 6, Integer.MIN_VALUE, Integer.MAX_VALUE}) {
            CHECK.refused("split", INDEX, yard, () -> yard.split(bench, 0));
            CHECK.refused("step", INDEX, yard, () -> yard.step(bench, 0));
            CHECK.refused("drain", INDEX, yard, () -> yard.drain(bench, 0));
            CHECK.refused("iterate", INDEX, yard, () -> yard.iterate(bench, 0));
            CHECK.refused("hasNext", INDEX, yard, () -> yard.hasNext(bench, 0));
            CHECK.refused("crumble", INDEX, yard, () -> yard.crumble(bench, 1));
            CHECK.refused("sweep", INDEX, yard, () -> yard.sweep(bench));
            CHECK.refused("isRead", INDEX, yard, () -> yard.isRead(bench));
        }
        for (int item : new int[] {-1, 1, Integer.MIN_VALUE, Integer.MAX_VALUE}) {
            CHECK.refused("split", INDEX, yard, () -> yard.split(0, item));
            CHECK.refused("step", INDEX, yard, () -> yard.step(0, item));
            CHECK.refused("drain", INDEX, yard, () -> yard.drain(0, item));
            CHECK.refused("iterate", INDEX, yard, () -> yard.iterate(0, item));
            CHECK.refused("hasNext", INDEX, yard, () -> yard.hasNext(0, item));
        }
        CHECK.refused("step on a bench never opened", INDEX, yard, () -> yard.step(1, 0));
    }
}
