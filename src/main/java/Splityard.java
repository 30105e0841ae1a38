/** Rows of numbers, and benches on which parts of the rows are split into pieces and read. */
public final class Splityard {
    private static final char[] KINDS = {'i', 'l', 'o'};
    private static final char[] HOWS = {'s', 'x', 'h', 'f'};
    private static final int[] SIZES_TO_CHECK = {1, 2, 3, 7};

    private static final int ROWS = 4;
    private static final int BENCHES = 6;
    private static final int LONGEST = 48;
    // A piece is split only with 2 numbers or more, so no two pieces end at one place of the part:
    // there are never more pieces than numbers.
    private static final int MOST_ITEMS = 2 * LONGEST;
    // Halving 48 takes 6 levels until nothing has more than 1.
    private static final int DEEPEST = 8;

    private static final int NUMBER = 'n';
    private static final int PIECE = 'p';
    private static final int ITERATOR = 't';

    // The values that the library's Spliterator gives its characteristics.
    private static final int ORDERED = 0x10;
    private static final int SIZED = 0x40;
    private static final int IMMUTABLE = 0x400;
    private static final int SUBSIZED = 0x4000;
    private static final int ALL_FOUR = ORDERED | SIZED | IMMUTABLE | SUBSIZED;

    private final Row[] rows = new Row[KINDS.length * ROWS];
    private final Bench[] benches = new Bench[BENCHES];
    // Kept, so that counting the pieces of a row makes no new object.
    private final Bench spare = new Bench();

    public Splityard() {
        for (int row = 0; row < rows.length; row++) {
            rows[row] = new Row();
        }
        for (int bench = 0; bench < benches.length; bench++) {
            benches[bench] = new Bench();
        }
    }

    // Rows.

    public int append(char kind, int row, long number)
            throws IllegalArgumentException, IndexOutOfBoundsException, IllegalStateException {
        if (isOfInts(kind) && number != (int) number) {
            throw new IllegalArgumentException("no number of this kind");
        }
        Row target = rowOf(kind, row);
        if (!target.add(number)) {
            throw new IllegalStateException("the row is full");
        }
        return target.count;
    }

    public int lay(char kind, int row, int many, long first, long step)
            throws IllegalArgumentException, IndexOutOfBoundsException {
        if (many < 0 || many > LONGEST) {
            throw new IllegalArgumentException("no such length of a row");
        }
        Row target = rowOf(kind, row);
        int had = target.count;
        target.clear();
        long next = first;
        for (int place = 0; place < many; place++) {
            target.add(isOfInts(kind) ? (int) next : next);
            next += step;
        }
        return had;
    }

    public int turn(char kind, int row) throws IllegalArgumentException, IndexOutOfBoundsException {
        Row target = rowOf(kind, row);
        target.reverse();
        return target.count;
    }

    public int length(char kind, int row) throws IllegalArgumentException, IndexOutOfBoundsException {
        return rowOf(kind, row).count;
    }

    public long number(char kind, int row, int place)
            throws IllegalArgumentException, IndexOutOfBoundsException {
        Row source = rowOf(kind, row);
        if (place < 0 || place >= source.count) {
            throw new IndexOutOfBoundsException("no such place");
        }
        return source.at(place);
    }

    // Benches.

    public int open(int bench, char kind, int row, int from, int to)
            throws IllegalArgumentException, IndexOutOfBoundsException {
        Row source = rowOf(kind, row);
        Bench target = benchAt(bench);
        if (from < 0 || from > to || to > source.count) {
            throw new IndexOutOfBoundsException("no such part");
        }
        target.start(source, from, to, kind == 'o');
        return target.size;
    }

    public int openAll(int bench, char kind, int row)
            throws IllegalArgumentException, IndexOutOfBoundsException {
        Row source = rowOf(kind, row);
        Bench target = benchAt(bench);
        target.start(source, 0, source.count, kind == 'o');
        return target.size;
    }

    public int items(int bench) throws IndexOutOfBoundsException {
        return benchAt(bench).count;
    }

    public char kindOf(int bench, int item) throws IndexOutOfBoundsException {
        return (char) benchWithItem(bench, item).whats[item];
    }

    public long given(int bench, int item) throws IndexOutOfBoundsException, IllegalStateException {
        Bench source = benchWithItem(bench, item);
        if (!source.isNumber(item)) {
            throw new IllegalStateException("the item is a piece");
        }
        return source.numbers[item];
    }

    public int left(int bench, int item) throws IndexOutOfBoundsException, IllegalStateException {
        return benchWithAnyPiece(bench, item).remaining(item);
    }

    public int ahead(int bench, int item) throws IndexOutOfBoundsException {
        return benchWithItem(bench, item).placeOf(item);
    }

    public boolean has(int bench, int item, char what)
            throws IndexOutOfBoundsException, IllegalStateException, IllegalArgumentException {
        Bench source = benchWithPiece(bench, item);
        int asked = characteristicsOf(what);
        if (asked == 0) {
            throw new IllegalArgumentException("no such characteristic");
        }
        return source.hasAll(item, asked);
    }

    public boolean isExact(int bench, int item) throws IndexOutOfBoundsException, IllegalStateException {
        return benchWithPiece(bench, item).hasAll(item, SIZED);
    }

    // Reading.

    public int split(int bench, int item) throws IndexOutOfBoundsException, IllegalStateException {
        return benchWithPiece(bench, item).halve(item);
    }

    public boolean step(int bench, int item) throws IndexOutOfBoundsException, IllegalStateException {
        return benchWithAnyPiece(bench, item).give(item, 1) == 1;
    }

    public int drain(int bench, int item) throws IndexOutOfBoundsException, IllegalStateException {
        return benchWithAnyPiece(bench, item).give(item, LONGEST);
    }

    public int iterate(int bench, int item)
            throws IndexOutOfBoundsException, IllegalStateException, UnsupportedOperationException {
        Bench source = benchWithPiece(bench, item);
        if (source.ofInteger) {
            throw new UnsupportedOperationException("no iterator over a piece of a row of Integer");
        }
        source.whats[item] = ITERATOR;
        return source.remaining(item);
    }

    public boolean hasNext(int bench, int item) throws IndexOutOfBoundsException, IllegalStateException {
        Bench source = benchWithItem(bench, item);
        if (source.whats[item] != ITERATOR) {
            throw new IllegalStateException("the item is no iterator");
        }
        return source.remaining(item) > 0;
    }

    public int crumble(int bench, int most) throws IndexOutOfBoundsException, IllegalArgumentException {
        Bench target = benchAt(bench);
        requirePieceSize(most);
        return target.halveAll(most);
    }

    public int sweep(int bench) throws IndexOutOfBoundsException {
        return benchAt(bench).removeEmpty();
    }

    public boolean isRead(int bench) throws IndexOutOfBoundsException {
        return benchAt(bench).isWholePart();
    }

    // Whole rows.

    public long fold(char kind, int row, int most, char how)
            throws IllegalArgumentException, IndexOutOfBoundsException {
        requirePieceSize(most);
        if (indexIn(HOWS, how) < 0) {
            throw new IllegalArgumentException("nothing such to reckon");
        }
        Row source = rowOf(kind, row);
        return foldPart(source, 0, source.count, most, how, 0);
    }

    public int pieces(char kind, int row, int most)
            throws IllegalArgumentException, IndexOutOfBoundsException {
        requirePieceSize(most);
        return countBySplitting(rowOf(kind, row), most);
    }

    // Figures.

    public float share(int bench) throws IndexOutOfBoundsException, ArithmeticException {
        Bench source = benchAt(bench);
        if (source.size == 0) {
            throw new ArithmeticException("the part is empty");
        }
        return (float) source.countNumbers() / (float) source.size;
    }

    public double meanLeft(int bench) throws IndexOutOfBoundsException, ArithmeticException {
        Bench source = benchAt(bench);
        int parts = source.count - source.countNumbers();
        if (parts == 0) {
            throw new ArithmeticException("the bench has no piece");
        }
        return (double) source.countLeft() / (double) parts;
    }

    public long checksum() {
        long sum = 7;
        for (Row row : rows) {
            sum = row.addTo(sum);
        }
        for (Bench bench : benches) {
            sum = bench.addTo(sum);
        }
        return sum;
    }

    public boolean isSound() {
        for (Bench bench : benches) {
            if (!bench.isInOrder()) {
                return false;
            }
        }
        for (Row row : rows) {
            if (!foldsAgree(row) || !piecesAgree(row)) {
                return false;
            }
        }
        return true;
    }

    // What the calls share. Of a wrong kind rowOf tells ahead of a wrong row, as the document does.

    private static int indexIn(char[] signs, char sign) {
        for (int index = 0; index < signs.length; index++) {
            if (signs[index] == sign) {
                return index;
            }
        }
        return -1;
    }

    private static void requirePieceSize(int most) {
        if (most < 1 || most > LONGEST) {
            throw new IllegalArgumentException("no such size of a piece");
        }
    }

    private static boolean isOfInts(char kind) {
        return kind != 'l';
    }

    private static int characteristicsOf(char what) {
        switch (what) {
            case 'o':
                return ORDERED;
            case 's':
                return SIZED;
            case 'u':
                return SUBSIZED;
            case 'i':
                return IMMUTABLE;
            case 'a':
                return ALL_FOUR;
            default:
                return 0;
        }
    }

    private Row rowOf(char kind, int row) {
        int group = indexIn(KINDS, kind);
        if (group < 0) {
            throw new IllegalArgumentException("no such kind");
        }
        if (row < 0 || row >= ROWS) {
            throw new IndexOutOfBoundsException("no such row");
        }
        return rows[group * ROWS + row];
    }

    private Bench benchAt(int bench) {
        if (bench < 0 || bench >= benches.length) {
            throw new IndexOutOfBoundsException("no such bench");
        }
        return benches[bench];
    }

    private Bench benchWithItem(int bench, int item) {
        Bench source = benchAt(bench);
        if (item < 0 || item >= source.count) {
            throw new IndexOutOfBoundsException("no such item");
        }
        return source;
    }

    private Bench benchWithAnyPiece(int bench, int item) {
        Bench source = benchWithItem(bench, item);
        if (source.isNumber(item)) {
            throw new IllegalStateException("the item is a number");
        }
        return source;
    }

    private Bench benchWithPiece(int bench, int item) {
        Bench source = benchWithItem(bench, item);
        if (source.whats[item] != PIECE) {
            throw new IllegalStateException("the item is a number or an iterator");
        }
        return source;
    }

    // What is reckoned of a row, in pieces and number by number.

    private static long foldPart(Row row, int from, int to, int most, char how, int depth) {
        int many = to - from;
        if (many <= most || depth >= DEEPEST) {
            return foldByNumber(row, from, to, how);
        }
        int middle = from + many / 2;
        long first = foldPart(row, from, middle, most, how, depth + 1);
        long other = foldPart(row, middle, to, most, how, depth + 1);
        return join(row, how, first, other, to - middle);
    }

    private static long foldByNumber(Row row, int from, int to, char how) {
        long told = how == 'f' ? -1 : 0;
        for (int place = from; place < to; place++) {
            told = foldNext(row, how, told, place);
        }
        return told;
    }

    private static long foldNext(Row row, char how, long told, int place) {
        long number = row.at(place);
        switch (how) {
            case 's':
                return told + number;
            case 'x':
                return told ^ number;
            case 'h':
                return 31 * told + number;
            default:
                return told < 0 || number > row.at((int) told) ? place : told;
        }
    }

    private static long join(Row row, char how, long first, long other, int numbersOfOther) {
        switch (how) {
            case 's':
                return first + other;
            case 'x':
                return first ^ other;
            case 'h':
                return first * powerOf31(numbersOfOther) + other;
            default:
                return greaterPlace(row, first, other);
        }
    }

    private static long powerOf31(int exponent) {
        long power = 1;
        for (int factors = 0; factors < exponent; factors++) {
            power *= 31;
        }
        return power;
    }

    private static long greaterPlace(Row row, long first, long other) {
        if (first < 0 || other < 0) {
            return Math.max(first, other);
        }
        // The first half keeps its place if both are the same.
        return row.at((int) other) > row.at((int) first) ? other : first;
    }

    private int countBySplitting(Row row, int most) {
        spare.start(row, 0, row.count, false);
        spare.halveAll(most);
        return spare.count;
    }

    private static int countByTheorem(int many, int most, int depth) {
        if (many <= most || depth >= DEEPEST) {
            return 1;
        }
        int half = many / 2;
        return countByTheorem(half, most, depth + 1) + countByTheorem(many - half, most, depth + 1);
    }

    private static boolean foldsAgree(Row row) {
        for (char how : HOWS) {
            long due = foldByNumber(row, 0, row.count, how);
            for (int most : SIZES_TO_CHECK) {
                if (foldPart(row, 0, row.count, most, how, 0) != due) {
                    return false;
                }
            }
        }
        return true;
    }

    private boolean piecesAgree(Row row) {
        for (int most : SIZES_TO_CHECK) {
            if (countBySplitting(row, most) != countByTheorem(row.count, most, 0)) {
                return false;
            }
        }
        return true;
    }

    /** Numbers of any kind: those of int fit into longs. */
    private static final class Row {
        private final long[] numbers = new long[LONGEST];
        private int count;

        boolean add(long number) {
            if (count >= numbers.length) {
                return false;
            }
            numbers[count] = number;
            count++;
            return true;
        }

        void clear() {
            count = 0;
        }

        long at(int place) {
            return place >= 0 && place < count ? numbers[place] : 0;
        }

        void reverse() {
            for (int place = 0; place < count / 2; place++) {
                int mirrored = count - 1 - place;
                long number = numbers[place];
                numbers[place] = numbers[mirrored];
                numbers[mirrored] = number;
            }
        }

        long addTo(long sum) {
            long longer = 31 * sum + count;
            for (int place = 0; place < count; place++) {
                longer = 31 * longer + numbers[place];
            }
            return longer;
        }
    }

    /** A copy of a part of a row, since the row may change later, and the list of items that it came to. */
    private static final class Bench {
        private final long[] part = new long[LONGEST];
        private int size;
        private boolean ofInteger;

        // A row of each for all items, used again for each opening, so that no call makes an object:
        // a number stands in numbers; what a piece has left, from nexts to ends, as places of the part.
        private final int[] whats = new int[MOST_ITEMS];
        private final long[] numbers = new long[MOST_ITEMS];
        private final int[] nexts = new int[MOST_ITEMS];
        private final int[] ends = new int[MOST_ITEMS];
        private int count;

        void start(Row row, int from, int to, boolean integers) {
            size = 0;
            for (int place = from; place < to && size < part.length; place++) {
                part[size] = row.at(place);
                size++;
            }
            ofInteger = integers;
            putPiece(0, 0, size);
            count = 1;
        }

        boolean isNumber(int item) {
            return whats[item] == NUMBER;
        }

        int remaining(int item) {
            return isNumber(item) ? 0 : ends[item] - nexts[item];
        }

        int placeOf(int item) {
            int place = 0;
            for (int before = 0; before < item && before < count; before++) {
                place += width(before);
            }
            return place;
        }

        boolean hasAll(int item, int asked) {
            int characteristics = whats[item] == PIECE ? ALL_FOUR : 0;
            return (characteristics & asked) == asked;
        }

        int halve(int item) {
            int many = remaining(item);
            if (many < 2 || !makeRoom(item, 1)) {
                return -1;
            }
            int rest = item + 1;
            int middle = nexts[rest] + many / 2;
            putPiece(item, nexts[rest], middle);
            nexts[rest] = middle;
            return many / 2;
        }

        int halveAll(int most) {
            int before = count;
            for (int item = 0; item < count && item < MOST_ITEMS; item++) {
                // The first half takes the place of what was split, and is looked at next.
                for (int depth = 0; depth < DEEPEST && isTooLong(item, most); depth++) {
                    halve(item);
                }
            }
            return count - before;
        }

        int give(int item, int most) {
            int many = Math.min(most, remaining(item));
            if (many < 1 || !makeRoom(item, many)) {
                return 0;
            }
            int piece = item + many;
            for (int place = item; place < piece; place++) {
                putNumber(place, partAt(nexts[piece]));
                nexts[piece]++;
            }
            return many;
        }

        int removeEmpty() {
            int kept = 0;
            for (int item = 0; item < count; item++) {
                if (width(item) > 0) {
                    copyItem(item, kept);
                    kept++;
                }
            }
            int went = count - kept;
            count = kept;
            return went;
        }

        boolean isWholePart() {
            return countNumbers() == count && isInOrder();
        }

        int countNumbers() {
            int many = 0;
            for (int item = 0; item < count; item++) {
                many += isNumber(item) ? 1 : 0;
            }
            return many;
        }

        int countLeft() {
            int many = 0;
            for (int item = 0; item < count; item++) {
                many += remaining(item);
            }
            return many;
        }

        long addTo(long sum) {
            long longer = 31 * sum + count;
            for (int item = 0; item < count; item++) {
                longer = 31 * longer + whats[item];
                longer = 31 * longer + (isNumber(item) ? numbers[item] : remaining(item));
            }
            return longer;
        }

        boolean isInOrder() {
            int place = 0;
            for (int item = 0; item < count; item++) {
                if (!standsAt(item, place)) {
                    return false;
                }
                place += width(item);
            }
            return place == size;
        }

        private boolean standsAt(int item, int place) {
            if (isNumber(item)) {
                return place < size && numbers[item] == part[place];
            }
            boolean knowsWhatIsLeft = nexts[item] == place && ends[item] >= place && ends[item] <= size;
            return knowsWhatIsLeft && (whats[item] == ITERATOR || hasAll(item, ALL_FOUR));
        }

        private int width(int item) {
            return isNumber(item) ? 1 : remaining(item);
        }

        private boolean isTooLong(int item, int most) {
            return whats[item] == PIECE && remaining(item) > most;
        }

        private long partAt(int place) {
            return place >= 0 && place < size ? part[place] : 0;
        }

        private void putPiece(int item, int from, int to) {
            whats[item] = PIECE;
            nexts[item] = from;
            ends[item] = to;
        }

        private void putNumber(int item, long number) {
            whats[item] = NUMBER;
            numbers[item] = number;
        }

        private void copyItem(int item, int target) {
            whats[target] = whats[item];
            numbers[target] = numbers[item];
            nexts[target] = nexts[item];
            ends[target] = ends[item];
        }

        private boolean makeRoom(int item, int many) {
            int behind = count - item;
            if (item < 0 || many < 0 || behind < 0 || count + many > MOST_ITEMS) {
                return false;
            }
            System.arraycopy(whats, item, whats, item + many, behind);
            System.arraycopy(numbers, item, numbers, item + many, behind);
            System.arraycopy(nexts, item, nexts, item + many, behind);
            System.arraycopy(ends, item, ends, item + many, behind);
            count += many;
            return true;
        }
    }
}
