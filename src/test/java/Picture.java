/** What objects show of themselves, as text, so that two of them can be told apart. */
final class Picture {
    private Picture() {
    }

    /** All that an object answers; reads its benches to the end, so it is the last thing asked of the object. */
    static String of(Splityard yard) {
        StringBuilder shown = new StringBuilder();
        for (char kind : Yards.KINDS) {
            for (int row = 0; row < 4; row++) {
                shown.append(kind).append(row).append(": ").append(row(yard, kind, row)).append("; ");
            }
        }
        for (int bench = 0; bench < 6; bench++) {
            shown.append(items(yard, bench)).append(figures(yard, bench));
        }
        shown.append("checksum ").append(yard.checksum()).append(", isSound ").append(yard.isSound());
        for (int bench = 0; bench < 6; bench++) {
            shown.append(end(yard, bench));
        }
        return shown.toString();
    }

    /** The numbers of a row. */
    static String row(Splityard yard, char kind, int row) {
        StringBuilder shown = new StringBuilder();
        int length = yard.length(kind, row);
        for (int place = 0; place < length; place++) {
            shown.append(place == 0 ? "" : " ").append(yard.number(kind, row, place));
        }
        return shown.toString();
    }

    /** The items of a bench: 'n' with the number, 'p' or 't' with how many are left. */
    static String bench(Splityard yard, int bench) {
        StringBuilder shown = new StringBuilder();
        int items = yard.items(bench);
        for (int item = 0; item < items; item++) {
            char kind = yard.kindOf(bench, item);
            long told = kind == 'n' ? yard.given(bench, item) : yard.left(bench, item);
            shown.append(item == 0 ? "" : " ").append(kind).append(told);
        }
        return shown.toString();
    }

    /** The numbers of a bench behind all its pieces were read. */
    static String drained(Splityard yard, int bench) {
        for (int item = yard.items(bench) - 1; item >= 0; item--) {
            if (yard.kindOf(bench, item) != 'n') {
                yard.drain(bench, item);
            }
        }
        return bench(yard, bench).replaceAll(" ?[pt]0", "").trim();
    }

    private static String items(Splityard yard, int bench) {
        StringBuilder shown = new StringBuilder("bench " + bench + ": ");
        int items = yard.items(bench);
        for (int item = 0; item < items; item++) {
            char kind = yard.kindOf(bench, item);
            shown.append(kind).append(kind == 'n' ? yard.given(bench, item) : yard.left(bench, item));
            shown.append(" behind ").append(yard.ahead(bench, item));
            if (kind == 'p') {
                shown.append(yard.has(bench, item, 'a')).append(yard.isExact(bench, item));
            } else if (kind == 't') {
                shown.append(yard.hasNext(bench, item));
            }
            shown.append(", ");
        }
        return shown.toString();
    }

    private static String figures(Splityard yard, int bench) {
        return "isRead " + yard.isRead(bench) + ", share " + Check.answer(yard, asked -> asked.share(bench))
                + ", meanLeft " + Check.answer(yard, asked -> asked.meanLeft(bench)) + "; ";
    }

    /** What a bench keeps for later: whether its numbers are Integers, and which ones it has left. */
    private static String end(Splityard yard, int bench) {
        int items = yard.items(bench);
        StringBuilder shown = new StringBuilder("; bench " + bench + ": ");
        for (int item = 0; item < items; item++) {
            if (yard.kindOf(bench, item) == 'p') {
                int asked = item;
                shown.append(Check.answer(yard, other -> other.iterate(bench, asked))).append(" ");
            }
        }
        shown.append(drained(yard, bench)).append(" ").append(yard.sweep(bench)).append(yard.isRead(bench));
        return shown.toString();
    }
}
