/** Promises 36 to 40: spots, sheets. */
final class SheetsTest {
    private SheetsTest() {
    }

    public static void main(String[] args) {
        hold();
        as();
        sheet();
        write();
        copy();
        copyFindings();
        copyItself();
        Due.end();
    }

    private static void hold() {
        FieldPitches x = new FieldPitches();
        x.party(2, 100, 0, 101);
        Due.due("36 hold", x.hold(9, 0), 1);
        Due.due("36 it holds it", x.as(9, 2), 0);
        Due.due("36 party 1", x.hold(9, 1), Due.BEYOND);
        Due.due("36 party -2", x.hold(9, -2), Due.BEYOND);
        Due.due("36 spot 10", x.hold(10, 0), Due.BEYOND);
        Due.due("36 spot -1", x.hold(-1, 0), Due.BEYOND);
        Due.due("36 it holds it still", x.as(9, 2), 0);
        Due.due("36 another spot too", x.hold(0, 0), 1);
        Due.due("36 nothing", x.hold(9, -1), 1);
        Due.due("36 it holds nothing", x.as(9, 2), Due.MISSING);
        Due.due("36 the other holds it", x.as(0, 2), 0);
        x.cancel(0);
        Due.due("36 one that was cancelled", x.hold(5, 0), 1);
        Due.due("36 it holds it", x.as(5, 0), 0);
    }

    private static void as() {
        FieldPitches x = new FieldPitches();
        boolean[][] isUnder = {
            {true, false, false, false, false},
            {true, true, false, false, false},
            {true, false, true, false, false},
            {true, false, true, true, false},
            {true, false, true, false, true},
        };
        for (int kind = 0; kind < 5; kind++) {
            x.party(kind, 100, 0, 101);
            x.hold(kind, kind);
            for (int as = 0; as < 5; as++) {
                int due = isUnder[kind][as] ? kind : Due.KIND;
                Due.due("37 " + kind + " as " + as, x.as(kind, as), due);
            }
        }
        Due.due("37 missing", x.as(9, 4), Due.MISSING);
        Due.due("37 kind 5", x.as(0, 5), Due.BEYOND);
        Due.due("37 kind -1", x.as(0, -1), Due.BEYOND);
        Due.due("37 beyond ahead of missing", x.as(9, 5), Due.BEYOND);
        Due.due("37 spot 10", x.as(10, 0), Due.BEYOND);
        Due.due("37 spot -1", x.as(-1, 0), Due.BEYOND);
    }

    private static void sheet() {
        FieldPitches x = new FieldPitches();
        Due.due("38 8", x.sheet(0, 8, 60), 60);
        Due.due("38 16", x.sheet(1, 16, 0), 0);
        Due.due("38 32", x.sheet(3, 32, 7), 7);
        Due.due("38 missing", x.sheet(0, 0, 5), 0);
        Due.due("38 it is", x.write(0, 0, 0), Due.MISSING);
        Due.due("38 sheet 4", x.sheet(4, 8, 1), Due.BEYOND);
        Due.due("38 sheet -1", x.sheet(-1, 8, 1), Due.BEYOND);
        int[] widths = {-8, 1, 7, 9, 24, 64, Integer.MAX_VALUE};
        for (int bits : widths) {
            Due.due("38 bits " + bits, x.sheet(3, bits, 1), Due.BEYOND);
        }
        Due.due("38 n -1", x.sheet(3, 8, -1), Due.SIZE);
        Due.due("38 n 61", x.sheet(3, 8, 61), Due.BEYOND);
        Due.due("38 n -1, missing", x.sheet(3, 0, -1), Due.SIZE);
        Due.due("38 n 61, missing", x.sheet(3, 0, 61), Due.BEYOND);
        Due.due("38 beyond ahead of size", x.sheet(3, 9, -1), Due.BEYOND);
        Due.due("38 beyond ahead of size", x.sheet(4, 8, -1), Due.BEYOND);
        Due.due("38 it stays", x.write(3, 6, 5), 1);
        x.pitch(0, 1000, 0, 0);
        x.pitch(0, 1000, 0, 0);
        x.sheet(2, 32, 3);
        Due.row(x, 2, 0, 1, 7, 7);
        Due.due("38 a row", x.join(2), -1);
        x.sheet(2, 32, 3);
        Due.due("38 all 0 again", x.join(2), Due.BEYOND);
        x.write(2, 2, 1);
        Due.due("38 0, 0, 1", x.join(2), -1);
        Due.due("38 n 0 isn't missing", x.write(1, 0, 0), Due.BEYOND);
    }

    private static void write() {
        FieldPitches x = new FieldPitches();
        Due.due("39 sheet 4", x.write(4, 0, 0), Due.BEYOND);
        Due.due("39 sheet -1", x.write(-1, 0, 0), Due.BEYOND);
        Due.due("39 missing", x.write(0, 0, 0), Due.MISSING);
        Due.due("39 missing ahead of beyond", x.write(0, 99, 0), Due.MISSING);
        x.sheet(0, 8, 3);
        Due.due("39 number 3", x.write(0, 3, 0), Due.BEYOND);
        Due.due("39 number -1", x.write(0, -1, 0), Due.BEYOND);
        Due.due("39 great", x.write(0, Integer.MAX_VALUE, 0), Due.BEYOND);
        Due.due("39 last", x.write(0, 2, 513), 1);
        x.pitch(0, 1000, 0, 0);
        Due.due("39 its lowest bits: 1 night", x.join(0), -1);
        Due.due("39 first", x.write(0, 0, 1), 1);
        Due.due("39 no such pitch", x.join(0), Due.BEYOND);
    }

    /** Two sheets: rows of stays, of which the first two clash, and 0s. */
    private static FieldPitches sheets() {
        FieldPitches x = new FieldPitches();
        x.pitch(0, 1000, 0, 0);
        x.pitch(0, 1000, 0, 0);
        x.sheet(0, 16, 9);
        Due.row(x, 0, 0, 0, 1, 2);
        Due.row(x, 0, 1, 0, 2, 3);
        Due.row(x, 0, 2, 1, 3, 4);
        x.sheet(1, 16, 6);
        return x;
    }

    private static void copy() {
        FieldPitches x = sheets();
        Due.due("40 two rows", x.copy(0, 3, 1, 0, 6), 6);
        Due.due("40 they don't clash", x.join(1), -1);
        Due.due("40 one more", x.copy(0, 0, 1, 3, 3), 3);
        Due.due("40 they clash", x.join(1), 1);
        Due.due("40 one number", x.copy(0, 6, 1, 3, 1), 1);
        Due.due("40 now they don't", x.join(1), -1);
        Due.due("40 the source stays", x.join(0), 1);
        Due.due("40 none", x.copy(0, 9, 1, 6, 0), 0);
        Due.due("40 none", x.copy(0, 0, 1, 0, 0), 0);
        Due.due("40 nothing changed", x.join(1), -1);
    }

    private static void copyFindings() {
        FieldPitches x = sheets();
        Due.due("40 sheet 4", x.copy(4, 0, 1, 0, 1), Due.BEYOND);
        Due.due("40 sheet 4", x.copy(0, 0, 4, 0, 1), Due.BEYOND);
        Due.due("40 sheet -1", x.copy(-1, 0, 1, 0, 1), Due.BEYOND);
        Due.due("40 sheet -1", x.copy(0, 0, -1, 0, 1), Due.BEYOND);
        Due.due("40 beyond ahead of missing", x.copy(2, 0, 4, 0, 1), Due.BEYOND);
        Due.due("40 missing", x.copy(2, 0, 1, 0, 1), Due.MISSING);
        Due.due("40 missing", x.copy(0, 0, 2, 0, 1), Due.MISSING);
        Due.due("40 missing ahead of beyond", x.copy(0, 99, 2, 0, 1), Due.MISSING);
        x.sheet(3, 32, 9);
        Due.due("40 kind", x.copy(0, 0, 3, 0, 1), Due.KIND);
        Due.due("40 kind", x.copy(3, 0, 0, 0, 1), Due.KIND);
        Due.due("40 kind ahead of beyond", x.copy(0, -1, 3, 0, 1), Due.KIND);
        int[][] wrong = {{-1, 0, 1}, {0, -1, 1}, {0, 0, -1}, {0, 0, 7}, {4, 0, 6}, {9, 0, 1}, {10, 0, 0},
            {0, 7, 0}, {0, 6, 1}, {0, 1, 6}, {Integer.MAX_VALUE, 0, 1}, {0, Integer.MAX_VALUE, 1},
            {1, 1, Integer.MAX_VALUE}, {Integer.MAX_VALUE, Integer.MAX_VALUE, Integer.MAX_VALUE},
            {Integer.MIN_VALUE, 0, 1}, {0, 0, Integer.MIN_VALUE}};
        for (int[] w : wrong) {
            Due.due("40 beyond", x.copy(0, w[0], 1, w[1], w[2]), Due.BEYOND);
        }
        Due.due("40 nothing changed", x.join(1), Due.BEYOND);
    }

    private static void copyItself() {
        FieldPitches x = sheets();
        Due.due("40 behind itself", x.copy(0, 0, 0, 3, 6), 6);
        // rows are now (0, 1, 2) (0, 1, 2) (0, 2, 3)
        Due.due("40 the first twice", x.join(0), 1);
        x.write(0, 3, 1);
        Due.due("40 the third is as the second was", x.join(0), 2);
        x.write(0, 7, 3);
        Due.due("40 nights 3 to 5", x.join(0), -1);
        FieldPitches y = sheets();
        Due.due("40 ahead of itself", y.copy(0, 3, 0, 0, 6), 6);
        // rows are now (0, 2, 3) (1, 3, 4) (1, 3, 4)
        Due.due("40 the last twice", y.join(0), 2);
        Due.due("40 onto itself", y.copy(0, 0, 0, 0, 9), 9);
        Due.due("40 the same", y.join(0), 2);
    }
}
