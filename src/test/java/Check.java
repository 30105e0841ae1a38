/** Counts and prints the answers of a test that are not the ones that are due. */
final class Check {
    interface Call {
        Object answer();
    }

    private final String test;
    private int looked;
    private int wrong;

    Check(String test) {
        this.test = test;
    }

    void same(String call, Object due, Object got) {
        looked++;
        if (!due.equals(got)) {
            wrong++;
            System.out.println(test + ": " + call + " answered " + got + ", due is " + due);
        }
    }

    /** The very class is asked for, so that no exception of the machine's passes for the document's. */
    void refused(String call, Class<? extends RuntimeException> due, Splityard yard, Call refused) {
        long before = yard.checksum();
        same(call, due.getName(), nameOfThrown(refused));
        same("checksum() behind " + call, before, yard.checksum());
    }

    private static String nameOfThrown(Call call) {
        try {
            return "the answer " + call.answer();
        } catch (RuntimeException thrown) {
            return thrown.getClass().getName();
        }
    }

    /** An object whose bench 0 is opened for the numbers 1 to so many, of a row of the kind. */
    static Splityard opened(char kind, int many) {
        Splityard yard = new Splityard();
        yard.lay(kind, 0, many, 1, 1);
        yard.openAll(0, kind, 0);
        return yard;
    }

    /** What a bench shows of its items: 'n' with the number, 'p' or 't' with how many are left. */
    static String bench(Splityard yard, int bench) {
        StringBuilder shown = new StringBuilder();
        for (int item = 0; item < yard.items(bench); item++) {
            char kind = yard.kindOf(bench, item);
            long told = kind == 'n' ? yard.given(bench, item) : yard.left(bench, item);
            shown.append(item == 0 ? "" : " ").append(kind).append(told);
        }
        return shown.toString();
    }

    static String row(Splityard yard, char kind, int row) {
        StringBuilder shown = new StringBuilder();
        for (int place = 0; place < yard.length(kind, row); place++) {
            shown.append(place == 0 ? "" : " ").append(yard.number(kind, row, place));
        }
        return shown.toString();
    }

    void end() {
        System.out.println(test + ": " + looked + " answers looked at, " + wrong + " not as due");
        if (wrong != 0 || looked == 0) {
            System.exit(1);
        }
    }
}
