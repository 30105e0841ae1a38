import java.lang.reflect.Array;
import java.lang.reflect.Field;

/** Promises 26 to 29: figures of the benches and of all. */
public final class FiguresTest {
    private static final Class<IndexOutOfBoundsException> INDEX = IndexOutOfBoundsException.class;
    private static final Class<ArithmeticException> ARITHMETIC = ArithmeticException.class;
    private static final Check CHECK = new Check("FiguresTest");

    public static void main(String[] args) throws ReflectiveOperationException {
        share();
        shareRefuses();
        meanLeft();
        meanLeftRefuses();
        checksumOfANewObject();
        checksumOfRowsAndBenches();
        isSound();
        isSoundChangesNothing();
        isSoundSeesAFault();
        CHECK.end();
    }

    private static void share() {
        Splityard yard = Check.opened('i', 3);
        CHECK.same("share of none", 0.0f, yard.share(0));
        yard.step(0, 0);
        CHECK.same("share of a third", 1.0f / 3.0f, yard.share(0));
        yard.split(0, 1);
        yard.step(0, 1);
        CHECK.same("share of two thirds", 2.0f / 3.0f, yard.share(0));
        yard.drain(0, 3);
        CHECK.same("share of all", 1.0f, yard.share(0));
        yard.sweep(0);
        CHECK.same("share of all, swept", 1.0f, yard.share(0));
        yard.open(0, 'i', 0, 1, 3);
        yard.step(0, 0);
        CHECK.same("share of a part", 0.5f, yard.share(0));
    }

    private static void shareRefuses() {
        Splityard yard = new Splityard();
        CHECK.refused("share, never opened", ARITHMETIC, yard, () -> yard.share(0));
        yard.openAll(0, 'l', 0);
        CHECK.refused("share of an empty part", ARITHMETIC, yard, () -> yard.share(0));
        CHECK.refused("share of no bench", INDEX, yard, () -> yard.share(6));
        CHECK.refused("share of no bench", INDEX, yard, () -> yard.share(-1));
    }

    private static void meanLeft() {
        Splityard yard = Check.opened('l', 7);
        CHECK.same("meanLeft of one", 7.0, yard.meanLeft(0));
        yard.split(0, 0);
        CHECK.same("meanLeft of two", 3.5, yard.meanLeft(0));
        yard.split(0, 1);
        CHECK.same("meanLeft of three", 7.0 / 3.0, yard.meanLeft(0));
        yard.iterate(0, 0);
        CHECK.same("meanLeft with an iterator", 7.0 / 3.0, yard.meanLeft(0));
        yard.drain(0, 0);
        CHECK.same("meanLeft with an empty iterator", 4.0 / 3.0, yard.meanLeft(0));
        yard.sweep(0);
        CHECK.same("meanLeft, swept", 2.0, yard.meanLeft(0));
        yard.openAll(1, 'i', 0);
        CHECK.same("meanLeft of an empty part", 0.0, yard.meanLeft(1));
    }

    private static void meanLeftRefuses() {
        Splityard yard = Check.opened('i', 3);
        yard.drain(0, 0);
        CHECK.same("meanLeft of an empty piece", 0.0, yard.meanLeft(0));
        yard.sweep(0);
        CHECK.refused("meanLeft of numbers alone", ARITHMETIC, yard, () -> yard.meanLeft(0));
        CHECK.refused("meanLeft, never opened", ARITHMETIC, yard, () -> yard.meanLeft(1));
        CHECK.refused("meanLeft of no bench", INDEX, yard, () -> yard.meanLeft(6));
        CHECK.refused("meanLeft of no bench", INDEX, yard, () -> yard.meanLeft(-1));
    }

    private static void checksumOfANewObject() {
        CHECK.same("checksum of a new object", -5157943634608739257L, new Splityard().checksum());
    }

    private static long sum(long first, long... terms) {
        long sum = first;
        for (long term : terms) {
            sum = 31 * sum + term;
        }
        return sum;
    }

    private static void checksumOfRowsAndBenches() {
        Splityard yard = new Splityard();
        yard.lay('i', 0, 2, 5, -8);
        yard.lay('l', 3, 1, Long.MIN_VALUE, 0);
        yard.append('o', 1, 6);
        yard.openAll(1, 'i', 0);
        yard.step(1, 0);
        yard.openAll(4, 'l', 3);
        yard.iterate(4, 0);
        yard.openAll(5, 'o', 0);
        long due = sum(7, 2, 5, -3, 0, 0, 0);
        due = sum(due, 0, 0, 0, 1, Long.MIN_VALUE);
        due = sum(due, 0, 1, 6, 0, 0);
        due = sum(due, 0, 2, 'n', 5, 'p', 1, 0, 0, 1, 't', 1, 1, 'p', 0);
        CHECK.same("checksum", due, yard.checksum());
        CHECK.same("checksum again", due, yard.checksum());
    }

    private static Splityard busy() {
        Splityard yard = new Splityard();
        for (int row = 0; row < 4; row++) {
            yard.lay('i', row, 12 * row + 12, 7, -3);
            yard.lay('l', row, 48 - row, Long.MAX_VALUE, row);
            yard.lay('o', row, row, -1, row);
        }
        yard.openAll(0, 'i', 3);
        yard.crumble(0, 5);
        yard.drain(0, 4);
        yard.open(1, 'l', 1, 10, 31);
        yard.step(1, 0);
        yard.split(1, 1);
        yard.iterate(1, 1);
        yard.step(1, 1);
        yard.openAll(2, 'o', 3);
        yard.drain(2, 0);
        yard.sweep(2);
        yard.openAll(3, 'o', 0);
        return yard;
    }

    private static void isSound() {
        CHECK.same("isSound of a new object", true, new Splityard().isSound());
        CHECK.same("isSound", true, busy().isSound());
    }

    private static void isSoundChangesNothing() {
        Splityard yard = busy();
        long before = yard.checksum();
        yard.isSound();
        CHECK.same("checksum behind isSound", before, yard.checksum());
        yard.crumble(0, 1);
        yard.drain(1, 2);
        Splityard other = busy();
        other.crumble(0, 1);
        other.drain(1, 2);
        CHECK.same("calls behind isSound", other.checksum(), yard.checksum());
    }

    /** No call makes an unsound bench, so the fields are reached past the face. */
    private static void isSoundSeesAFault() throws ReflectiveOperationException {
        CHECK.same("a number that is not the part's", false, withFault("numbers", 0, 99).isSound());
        CHECK.same("a piece at a wrong place", false, withFault("nexts", 1, 2).isSound());
        CHECK.same("a piece with too few left", false, withFault("ends", 2, 3).isSound());
        CHECK.same("a piece with too many left", false, withFault("ends", 2, 5).isSound());
        CHECK.same("a number too many", false, withFault("whats", 2, 'n').isSound());
        CHECK.same("no fault", true, withFault("ends", 2, 4).isSound());
        Splityard moved = withFault("nexts", 1, 2);
        setFault(moved, "ends", 1, 3);
        CHECK.same("a piece of the right size at a wrong place", false, moved.isSound());
    }

    /** Bench 0 of four numbers, as a number, a piece of 1 and a piece of 2, with one value set otherwise. */
    private static Splityard withFault(String field, int item, int value) throws ReflectiveOperationException {
        Splityard yard = Check.opened('i', 4);
        yard.step(0, 0);
        yard.split(0, 1);
        setFault(yard, field, item, value);
        return yard;
    }

    private static void setFault(Splityard yard, String field, int item, int value)
            throws ReflectiveOperationException {
        Object bench = Array.get(read(yard, "benches"), 0);
        Object values = read(bench, field);
        if (values instanceof long[]) {
            Array.setLong(values, item, value);
        } else {
            Array.setInt(values, item, value);
        }
    }

    private static Object read(Object object, String name) throws ReflectiveOperationException {
        Field field = object.getClass().getDeclaredField(name);
        field.setAccessible(true);
        return field.get(object);
    }
}
