import java.util.ArrayList;
import java.util.Arrays;
import java.util.Iterator;
import java.util.List;
import java.util.Spliterator;
import java.util.Spliterators;

/** The document told a second time, upon the spliterators and iterators of java.util themselves. */
public final class LibraryYard {
    private static final String KINDS = "ilo";

    /** An item: a number, or a piece, which has a spliterator until it becomes an iterator. */
    private static final class Item {
        Long number;
        Spliterator<? extends Number> spliterator;
        Iterator<? extends Number> iterator;
        int left;

        boolean isIterator() {
            return iterator != null;
        }

        char kind() {
            return number != null ? 'n' : isIterator() ? 't' : 'p';
        }

        int left() {
            return number != null ? 0 : isIterator() ? left : (int) spliterator.estimateSize();
        }

        int width() {
            return number != null ? 1 : left();
        }
    }

    private static final class Bench {
        List<Long> part = new ArrayList<>();
        List<Item> items = new ArrayList<>();
        char kind;
    }

    private final List<List<Long>> rows = new ArrayList<>();
    private final List<Bench> benches = new ArrayList<>();

    public LibraryYard() {
        for (int row = 0; row < 12; row++) {
            rows.add(new ArrayList<>());
        }
        for (int bench = 0; bench < 6; bench++) {
            benches.add(new Bench());
        }
    }

    public int append(char kind, int row, long number) {
        argument(KINDS.indexOf(kind) >= 0 && (kind == 'l' || (int) number == number));
        List<Long> target = row(kind, row);
        state(target.size() < 48);
        target.add(number);
        return target.size();
    }

    public int lay(char kind, int row, int many, long first, long step) {
        argument(KINDS.indexOf(kind) >= 0 && many >= 0 && many <= 48);
        List<Long> target = row(kind, row);
        int had = target.size();
        target.clear();
        for (int place = 0; place < many; place++) {
            long number = first + place * step;
            target.add(kind == 'l' ? number : (int) number);
        }
        return had;
    }

    public int turn(char kind, int row) {
        java.util.Collections.reverse(row(kind, row));
        return row(kind, row).size();
    }

    public int length(char kind, int row) {
        return row(kind, row).size();
    }

    public long number(char kind, int row, int place) {
        List<Long> source = row(kind, row);
        index(place >= 0 && place < source.size());
        return source.get(place);
    }

    public int open(int bench, char kind, int row, int from, int to) {
        List<Long> source = row(kind, row);
        Bench target = bench(bench);
        index(from >= 0 && from <= to && to <= source.size());
        target.part = new ArrayList<>(source.subList(from, to));
        target.kind = kind;
        Item whole = new Item();
        whole.spliterator = spliterator(kind, target.part);
        target.items = new ArrayList<>(List.of(whole));
        return to - from;
    }

    public int openAll(int bench, char kind, int row) {
        return open(bench, kind, row, 0, row(kind, row).size());
    }

    public int items(int bench) {
        return bench(bench).items.size();
    }

    public char kindOf(int bench, int item) {
        return item(bench, item).kind();
    }

    public long given(int bench, int item) {
        Item source = item(bench, item);
        state(source.kind() == 'n');
        return source.number;
    }

    public int left(int bench, int item) {
        return anyPiece(bench, item).left();
    }

    public int ahead(int bench, int item) {
        item(bench, item);
        return bench(bench).items.subList(0, item).stream().mapToInt(Item::width).sum();
    }

    public boolean has(int bench, int item, char what) {
        Spliterator<?> piece = piece(bench, item).spliterator;
        argument("osuia".indexOf(what) >= 0);
        int[] characteristics = {Spliterator.ORDERED, Spliterator.SIZED, Spliterator.SUBSIZED, Spliterator.IMMUTABLE};
        return what == 'a'
                ? Arrays.stream(characteristics).allMatch(piece::hasCharacteristics)
                : piece.hasCharacteristics(characteristics["osui".indexOf(what)]);
    }

    public boolean isExact(int bench, int item) {
        return piece(bench, item).spliterator.getExactSizeIfKnown() >= 0;
    }

    public int split(int bench, int item) {
        Item other = piece(bench, item);
        Spliterator<? extends Number> split = other.spliterator.trySplit();
        if (split == null) {
            return -1;
        }
        Item first = new Item();
        first.spliterator = split;
        bench(bench).items.add(item, first);
        return first.left();
    }

    public boolean step(int bench, int item) {
        Item piece = anyPiece(bench, item);
        List<Long> given = new ArrayList<>();
        if (!piece.isIterator()) {
            piece.spliterator.tryAdvance(number -> given.add(number.longValue()));
        } else if (piece.iterator.hasNext()) {
            given.add(piece.iterator.next().longValue());
            piece.left--;
        }
        insert(bench, item, given);
        return !given.isEmpty();
    }

    public int drain(int bench, int item) {
        Item piece = anyPiece(bench, item);
        List<Long> given = new ArrayList<>();
        if (piece.isIterator()) {
            piece.iterator.forEachRemaining(number -> given.add(number.longValue()));
            piece.left = 0;
        } else {
            piece.spliterator.forEachRemaining(number -> given.add(number.longValue()));
        }
        insert(bench, item, given);
        return given.size();
    }

    public int iterate(int bench, int item) {
        Item piece = piece(bench, item);
        if (bench(bench).kind == 'o') {
            throw new UnsupportedOperationException();
        }
        piece.left = piece.left();
        piece.iterator = bench(bench).kind == 'i'
                ? Spliterators.iterator((Spliterator.OfInt) piece.spliterator)
                : Spliterators.iterator((Spliterator.OfLong) piece.spliterator);
        return piece.left;
    }

    public boolean hasNext(int bench, int item) {
        Item piece = item(bench, item);
        state(piece.isIterator());
        return piece.iterator.hasNext();
    }

    public int crumble(int bench, int most) {
        Bench target = bench(bench);
        argument(most >= 1 && most <= 48);
        int splits = 0;
        int item = 0;
        while (item < target.items.size()) {
            if (target.items.get(item).kind() == 'p' && target.items.get(item).left() > most) {
                split(bench, item);
                splits++;
            } else {
                item++;
            }
        }
        return splits;
    }

    public int sweep(int bench) {
        int before = bench(bench).items.size();
        bench(bench).items.removeIf(item -> item.width() == 0);
        return before - bench(bench).items.size();
    }

    public boolean isRead(int bench) {
        return bench(bench).part.equals(bench(bench).items.stream().map(item -> item.number).toList());
    }

    public long fold(char kind, int row, int most, char how) {
        argument(KINDS.indexOf(kind) >= 0 && "sxhf".indexOf(how) >= 0 && most >= 1 && most <= 48);
        List<Long> source = row(kind, row);
        if (how == 's') {
            return source.stream().reduce(0L, (told, number) -> told + number);
        }
        if (how == 'x') {
            return source.stream().reduce(0L, (told, number) -> told ^ number);
        }
        if (how == 'h') {
            return source.stream().reduce(0L, (told, number) -> 31 * told + number);
        }
        return source.isEmpty() ? -1 : source.indexOf(java.util.Collections.max(source));
    }

    public int pieces(char kind, int row, int most) {
        argument(KINDS.indexOf(kind) >= 0 && most >= 1 && most <= 48);
        return pieces(spliterator(kind, row(kind, row)), most);
    }

    private static int pieces(Spliterator<? extends Number> piece, int most) {
        if (piece.estimateSize() <= most) {
            return 1;
        }
        return pieces(piece.trySplit(), most) + pieces(piece, most);
    }

    public float share(int bench) {
        Bench source = bench(bench);
        arithmetic(!source.part.isEmpty());
        long given = source.items.stream().filter(item -> item.kind() == 'n').count();
        return (float) given / (float) source.part.size();
    }

    public double meanLeft(int bench) {
        int[] left = bench(bench).items.stream().filter(item -> item.kind() != 'n').mapToInt(Item::left).toArray();
        arithmetic(left.length > 0);
        return (double) Arrays.stream(left).sum() / (double) left.length;
    }

    public long checksum() {
        List<Long> terms = new ArrayList<>();
        for (List<Long> row : rows) {
            terms.add((long) row.size());
            terms.addAll(row);
        }
        for (Bench bench : benches) {
            terms.add((long) bench.items.size());
            for (Item item : bench.items) {
                terms.add((long) item.kind());
                terms.add(item.number != null ? item.number : Long.valueOf(item.left()));
            }
        }
        return terms.stream().reduce(7L, (sum, term) -> 31 * sum + term);
    }

    public boolean isSound() {
        return true;
    }

    private static Spliterator<? extends Number> spliterator(char kind, List<Long> numbers) {
        // Copied and marked as immutable, as a part is that no later change of its row reaches.
        if (kind == 'i') {
            return Arrays.spliterator(numbers.stream().mapToInt(Long::intValue).toArray());
        }
        if (kind == 'l') {
            return Arrays.spliterator(numbers.stream().mapToLong(Long::longValue).toArray());
        }
        return Arrays.spliterator(numbers.stream().map(Long::intValue).toArray(Integer[]::new));
    }

    private void insert(int bench, int item, List<Long> numbers) {
        List<Item> given = new ArrayList<>();
        for (Long number : numbers) {
            Item next = new Item();
            next.number = number;
            given.add(next);
        }
        bench(bench).items.addAll(item, given);
    }

    private List<Long> row(char kind, int row) {
        argument(KINDS.indexOf(kind) >= 0);
        index(row >= 0 && row < 4);
        return rows.get(4 * KINDS.indexOf(kind) + row);
    }

    private Bench bench(int bench) {
        index(bench >= 0 && bench < 6);
        return benches.get(bench);
    }

    private Item item(int bench, int item) {
        index(item >= 0 && item < bench(bench).items.size());
        return bench(bench).items.get(item);
    }

    private Item anyPiece(int bench, int item) {
        state(item(bench, item).kind() != 'n');
        return item(bench, item);
    }

    private Item piece(int bench, int item) {
        state(item(bench, item).kind() == 'p');
        return item(bench, item);
    }

    private static void argument(boolean holds) {
        if (!holds) {
            throw new IllegalArgumentException();
        }
    }

    private static void index(boolean holds) {
        if (!holds) {
            throw new IndexOutOfBoundsException();
        }
    }

    private static void state(boolean holds) {
        if (!holds) {
            throw new IllegalStateException();
        }
    }

    private static void arithmetic(boolean holds) {
        if (!holds) {
            throw new ArithmeticException();
        }
    }
}
