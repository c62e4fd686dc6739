/** Answers that are due: prints each that is another one, and ends the run with 1 if there was one. */
final class Due {
    static final int BEYOND = -1000001;
    static final int FULL = -1000002;
    static final int KIND = -1000003;
    static final int NONE = -1000004;
    static final int STATE = -1000005;
    static final int MISSING = -1000006;
    static final int SIZE = -1000007;

    private static int wrong = 0;

    private Due() {
    }

    static void due(String what, int got, int want) {
        if (got != want) {
            wrong++;
            System.out.println(what + " answered " + got + ", due is " + want);
        }
    }

    static void holds(String what, boolean isSo) {
        if (!isSo) {
            wrong++;
            System.out.println(what + " doesn't hold");
        }
    }

    /** THE TAPE gets a text; the answer is that of the last call. */
    static int type(FieldPitches x, String text) {
        int had = x.count(4);
        for (int i = 0; i < text.length(); i++) {
            had = x.feed(text.charAt(i), 1);
        }
        return had;
    }

    /** A LAW's TEXT is told. */
    static int tell(FieldPitches x, int law, String text) {
        type(x, text);
        return x.law(law);
    }

    /** A row of a sheet, as join reads it. */
    static void row(FieldPitches x, int sheet, int row, int... numbers) {
        for (int i = 0; i < numbers.length; i++) {
            due("write", x.write(sheet, 3 * row + i, numbers[i]), 1);
        }
    }

    static void end() {
        if (wrong != 0) {
            System.out.println(wrong + " answers are not as due");
            System.exit(1);
        }
    }
}
