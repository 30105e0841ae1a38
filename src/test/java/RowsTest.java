/** Promises 1 to 6: a new object, and its rows. */
public final class RowsTest {
    private static final Class<IllegalArgumentException> ARGUMENT = IllegalArgumentException.class;
    private static final Class<IndexOutOfBoundsException> INDEX = IndexOutOfBoundsException.class;
    private static final Class<IllegalStateException> STATE = IllegalStateException.class;
    private static final char[] KINDS = {'i', 'l', 'o'};
    private static final char[] NO_KINDS = {'I', 'n', ' ', (char) 0, (char) 65535};
    private static final int[] NO_ROWS = {-1, 4, Integer.MIN_VALUE, Integer.MAX_VALUE};
    private static final Check CHECK = new Check("RowsTest");

    public static void main(String[] args) {
        newObject();
        append();
        appendRefuses();
        lay();
        layGoesRound();
        layRefuses();
        turn();
        turnRefuses();
        length();
        number();
        CHECK.end();
    }

    private static void newObject() {
        Splityard yard = new Splityard();
        for (char kind : KINDS) {
            for (int row = 0; row < 4; row++) {
                CHECK.same("new length " + kind + row, 0, yard.length(kind, row));
            }
        }
        for (int bench = 0; bench < 6; bench++) {
            CHECK.same("new items " + bench, 0, yard.items(bench));
            CHECK.same("new isRead " + bench, true, yard.isRead(bench));
        }
        CHECK.same("two objects share nothing", 1, new Splityard().append('i', 0, 1));
        CHECK.same("two objects share nothing", 0, yard.length('i', 0));
    }

    private static void append() {
        Splityard yard = new Splityard();
        for (char kind : KINDS) {
            CHECK.same("append first", 1, yard.append(kind, 3, -5));
            CHECK.same("append second", 2, yard.append(kind, 3, Integer.MAX_VALUE));
            CHECK.same("append third", 3, yard.append(kind, 3, Integer.MIN_VALUE));
            CHECK.same("appended " + kind, "-5 2147483647 -2147483648", Check.row(yard, kind, 3));
            CHECK.same("append to another row", 1, yard.append(kind, 0, 9));
        }
        yard.append('l', 1, Long.MAX_VALUE);
        yard.append('l', 1, Long.MIN_VALUE);
        CHECK.same("appended longs", "9223372036854775807 -9223372036854775808", Check.row(yard, 'l', 1));
        CHECK.same("row of another kind", 0, yard.length('i', 1));
    }

    private static void appendRefuses() {
        Splityard yard = new Splityard();
        for (int many = 1; many <= 48; many++) {
            CHECK.same("append up to 48", many, yard.append('o', 2, many));
        }
        CHECK.refused("append a 49th", STATE, yard, () -> yard.append('o', 2, 49));
        CHECK.refused("append a wrong number to a full row", ARGUMENT, yard, () -> yard.append('o', 2, 1L << 31));
        CHECK.refused("append a wrong number to no row", ARGUMENT, yard, () -> yard.append('i', 4, 1L << 31));
        CHECK.refused("append above int", ARGUMENT, yard, () -> yard.append('i', 0, 2147483648L));
        CHECK.refused("append below int", ARGUMENT, yard, () -> yard.append('o', 0, -2147483649L));
        CHECK.refused("append 2 to the 32", ARGUMENT, yard, () -> yard.append('i', 0, 1L << 32));
        for (char kind : NO_KINDS) {
            CHECK.refused("append no kind", ARGUMENT, yard, () -> yard.append(kind, 9, 0));
        }
        for (int row : NO_ROWS) {
            CHECK.refused("append no row", INDEX, yard, () -> yard.append('l', row, 0));
        }
    }

    private static void lay() {
        Splityard yard = new Splityard();
        for (char kind : KINDS) {
            CHECK.same("lay", 0, yard.lay(kind, 1, 4, 10, -7));
            CHECK.same("laid " + kind, "10 3 -4 -11", Check.row(yard, kind, 1));
            CHECK.same("lay over", 4, yard.lay(kind, 1, 1, -1, 5));
            CHECK.same("laid over " + kind, "-1", Check.row(yard, kind, 1));
            CHECK.same("lay 48", 1, yard.lay(kind, 1, 48, 0, 1));
            CHECK.same("last of 48", 47L, yard.number(kind, 1, 47));
            CHECK.same("lay none", 48, yard.lay(kind, 1, 0, 3, 3));
            CHECK.same("length of none", 0, yard.length(kind, 1));
        }
    }

    private static void layGoesRound() {
        Splityard yard = new Splityard();
        yard.lay('l', 0, 3, Long.MAX_VALUE, 1);
        CHECK.same("longs go round", "9223372036854775807 -9223372036854775808 -9223372036854775807",
                Check.row(yard, 'l', 0));
        for (char kind : new char[] {'i', 'o'}) {
            yard.lay(kind, 0, 3, Integer.MAX_VALUE, 1);
            CHECK.same("ints go round " + kind, "2147483647 -2147483648 -2147483647", Check.row(yard, kind, 0));
            yard.lay(kind, 0, 2, 1L << 31, (1L << 32) + 5);
            CHECK.same("a first that is no int " + kind, "-2147483648 -2147483643", Check.row(yard, kind, 0));
            yard.lay(kind, 0, 3, Long.MAX_VALUE, 2);
            CHECK.same("the first of longs " + kind, "-1 1 3", Check.row(yard, kind, 0));
        }
    }

    private static void layRefuses() {
        Splityard yard = new Splityard();
        yard.lay('i', 0, 5, 1, 1);
        CHECK.refused("lay -1", ARGUMENT, yard, () -> yard.lay('i', 0, -1, 0, 0));
        CHECK.refused("lay 49", ARGUMENT, yard, () -> yard.lay('i', 0, 49, 0, 0));
        CHECK.refused("lay 49 to no row", ARGUMENT, yard, () -> yard.lay('i', 4, 49, 0, 0));
        for (char kind : NO_KINDS) {
            CHECK.refused("lay no kind", ARGUMENT, yard, () -> yard.lay(kind, -1, 2, 0, 0));
        }
        for (int row : NO_ROWS) {
            CHECK.refused("lay no row", INDEX, yard, () -> yard.lay('o', row, 2, 0, 0));
        }
    }

    private static void turn() {
        Splityard yard = new Splityard();
        for (char kind : KINDS) {
            CHECK.same("turn none", 0, yard.turn(kind, 2));
            yard.lay(kind, 2, 5, 1, 1);
            CHECK.same("turn five", 5, yard.turn(kind, 2));
            CHECK.same("turned five", "5 4 3 2 1", Check.row(yard, kind, 2));
            yard.lay(kind, 2, 2, 1, 1);
            CHECK.same("turn two", 2, yard.turn(kind, 2));
            CHECK.same("turned two", "2 1", Check.row(yard, kind, 2));
            yard.append(kind, 2, 7);
            CHECK.same("appended behind", "2 1 7", Check.row(yard, kind, 2));
        }
    }

    private static void turnRefuses() {
        Splityard yard = new Splityard();
        for (char kind : NO_KINDS) {
            CHECK.refused("turn no kind", ARGUMENT, yard, () -> yard.turn(kind, 4));
            CHECK.refused("length no kind", ARGUMENT, yard, () -> yard.length(kind, 4));
            CHECK.refused("number no kind", ARGUMENT, yard, () -> yard.number(kind, 4, 0));
        }
        for (int row : NO_ROWS) {
            CHECK.refused("turn no row", INDEX, yard, () -> yard.turn('i', row));
            CHECK.refused("length no row", INDEX, yard, () -> yard.length('l', row));
            CHECK.refused("number no row", INDEX, yard, () -> yard.number('o', row, 0));
        }
    }

    private static void length() {
        Splityard yard = new Splityard();
        yard.lay('l', 3, 48, 0, 0);
        yard.append('o', 3, 0);
        CHECK.same("length 48", 48, yard.length('l', 3));
        CHECK.same("length 1", 1, yard.length('o', 3));
        CHECK.same("length 0", 0, yard.length('i', 3));
    }

    private static void number() {
        Splityard yard = new Splityard();
        yard.lay('l', 0, 48, 1L << 40, 1);
        yard.lay('i', 0, 3, 6, 2);
        CHECK.same("number first", 1L << 40, yard.number('l', 0, 0));
        CHECK.same("number last", (1L << 40) + 47, yard.number('l', 0, 47));
        CHECK.same("number middle", 8L, yard.number('i', 0, 1));
        CHECK.refused("number behind 48", INDEX, yard, () -> yard.number('l', 0, 48));
        CHECK.refused("number behind 3", INDEX, yard, () -> yard.number('i', 0, 3));
        CHECK.refused("number ahead", INDEX, yard, () -> yard.number('i', 0, -1));
        CHECK.refused("number of an empty row", INDEX, yard, () -> yard.number('o', 0, 0));
        CHECK.refused("number of the least place", INDEX, yard, () -> yard.number('o', 0, Integer.MIN_VALUE));
        CHECK.refused("number of the greatest place", INDEX, yard, () -> yard.number('o', 0, Integer.MAX_VALUE));
    }
}
