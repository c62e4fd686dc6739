/** Promises 32 to 35: wash blocks, two books. */
final class WashTest {
    private WashTest() {
    }

    public static void main(String[] args) {
        wash();
        block();
        blockOrder();
        dry();
        join();
        joinFindings();
        joinWidths();
        Due.end();
    }

    private static void wash() {
        FieldPitches x = new FieldPitches();
        int[][] wrong = {{-1, 1}, {1000, 1}, {0, 0}, {0, 61}, {0, -1}, {Integer.MIN_VALUE, 1}, {0, Integer.MAX_VALUE}};
        for (int[] w : wrong) {
            Due.due("32 beyond", x.wash(w[0], w[1]), Due.BEYOND);
        }
        Due.due("32 least", x.wash(0, 1), 1);
        Due.due("32 most", x.wash(999, 60), 2);
        for (int n = 3; n <= 20; n++) {
            Due.due("32 wash", x.wash(n, n), n);
        }
        Due.due("32 full", x.wash(0, 1), Due.FULL);
        Due.due("32 beyond ahead of full", x.wash(0, 0), Due.BEYOND);
        Due.due("32 count", x.count(5), 20);
    }

    private static void block(FieldPitches x, int showers, int wait, int done, int waiting) {
        Due.due("33 longest wait, " + showers, x.block(showers, 0), wait);
        Due.due("33 all done, " + showers, x.block(showers, 1), done);
        Due.due("33 waiting, " + showers, x.block(showers, 2), waiting);
    }

    private static void block() {
        FieldPitches x = new FieldPitches();
        block(x, 1, 0, 0, 0);
        block(x, 6, 0, 0, 0);
        x.wash(999, 60);
        block(x, 1, 0, 1059, 0);
        Due.due("33 showers 0", x.block(0, 0), Due.BEYOND);
        Due.due("33 showers 7", x.block(7, 0), Due.BEYOND);
        Due.due("33 showers -1", x.block(-1, 0), Due.BEYOND);
        Due.due("33 what 3", x.block(1, 3), Due.BEYOND);
        Due.due("33 what -1", x.block(1, -1), Due.BEYOND);
        x.dry();
        for (int n = 0; n < 20; n++) {
            x.wash(999, 60);
        }
        block(x, 1, 19 * 60, 999 + 20 * 60, 19);
        block(x, 6, 3 * 60, 999 + 4 * 60, 14);
    }

    private static void blockOrder() {
        FieldPitches x = new FieldPitches();
        x.wash(10, 30);
        x.wash(10, 5);
        x.wash(0, 10);
        x.wash(40, 10);
        x.wash(12, 1);
        // 0-10, 10-40 (as soon as one is free: no wait), 10: 40-45, 12: 45-46, 40: 46-56
        block(x, 1, 33, 56, 3);
        // first: 0-10, 10-40; second: 10-15, 12: 15-16, 40-50
        block(x, 2, 3, 50, 1);
        block(x, 3, 0, 50, 0);
        FieldPitches y = new FieldPitches();
        y.wash(10, 5);
        y.wash(10, 30);
        y.wash(10, 1);
        // of like ones in the order told: the third waits for the first
        block(y, 1, 35, 46, 2);
        block(y, 2, 5, 40, 1);
    }

    private static void dry() {
        FieldPitches x = new FieldPitches();
        x.wash(0, 5);
        x.wash(0, 5);
        Due.due("34 dry", x.dry(), 2);
        Due.due("34 again", x.dry(), 0);
        Due.due("34 count", x.count(5), 0);
        Due.due("34 nobody waits", x.block(1, 2), 0);
        Due.due("34 from 1 on", x.wash(7, 5), 1);
        Due.due("34 the new one alone", x.block(1, 1), 12);
    }

    private static FieldPitches book() {
        FieldPitches x = new FieldPitches();
        x.pitch(0, 1000, 0, 0);
        x.pitch(0, 1000, 0, 0);
        x.party(0, 100, 0, 1005);
        x.put(0, 1);
        return x;
    }

    private static void join() {
        FieldPitches x = book();
        x.sheet(2, 8, 0);
        Due.due("35 no rows", x.join(2), -1);
        x.sheet(2, 8, 12);
        Due.row(x, 2, 0, 0, 10, 5);
        Due.row(x, 2, 1, 1, 15, 5);
        Due.row(x, 2, 2, 1, 9, 1);
        Due.row(x, 2, 3, 0, 9, 1);
        Due.due("35 none", x.join(2), -1);
        Due.row(x, 2, 3, 0, 9, 2);
        Due.due("35 a row ahead", x.join(2), 3);
        Due.row(x, 2, 2, 1, 9, 2);
        Due.due("35 the pitch isn't free", x.join(2), 2);
        Due.row(x, 2, 1, 1, 14, 1);
        Due.due("35 in its last night", x.join(2), 1);
        Due.row(x, 2, 0, 1, 0, 30);
        Due.due("35 all around", x.join(2), 0);
        x.cancel(0);
        Due.due("35 a row ahead in the same pitch", x.join(2), 1);
        x.nights(50);
        Due.row(x, 2, 1, 0, 70, 30);
        Due.row(x, 2, 2, 0, 69, 1);
        Due.row(x, 2, 3, 0, 99, 1);
        Due.due("35 the last night", x.join(2), 3);
        Due.row(x, 2, 3, 1, 99, 1);
        Due.due("35 also ahead of today", x.join(2), -1);
    }

    private static void joinFindings() {
        FieldPitches x = book();
        Due.due("35 sheet 4", x.join(4), Due.BEYOND);
        Due.due("35 sheet -1", x.join(-1), Due.BEYOND);
        Due.due("35 missing", x.join(0), Due.MISSING);
        x.sheet(0, 32, 4);
        Due.due("35 size, ahead of rows", x.join(0), Due.SIZE);
        x.sheet(0, 32, 5);
        Due.due("35 size", x.join(0), Due.SIZE);
        x.sheet(0, 32, 6);
        Due.due("35 0 nights", x.join(0), Due.BEYOND);
        int[][] wrong = {{2, 0, 1}, {-1, 0, 1}, {0, -1, 1}, {0, 100, 1}, {0, 0, 0}, {0, 0, 31}, {0, 99, 2},
            {0, 71, 30}, {0, 0, -1}, {0, Integer.MAX_VALUE, 1}, {0, 1, Integer.MAX_VALUE}};
        for (int[] w : wrong) {
            Due.row(x, 0, 0, 1, 10, 1);
            Due.row(x, 0, 1, w);
            Due.due("35 beyond ahead of the first clash", x.join(0), Due.BEYOND);
            Due.row(x, 0, 0, w);
            Due.row(x, 0, 1, 0, 70, 30);
            Due.due("35 beyond", x.join(0), Due.BEYOND);
        }
        x.sheet(0, 0, 0);
        Due.due("35 missing again", x.join(0), Due.MISSING);
    }

    private static void joinWidths() {
        FieldPitches x = book();
        int[] widths = {8, 16, 32};
        int[] same = {256, 65536, 0};
        for (int i = 0; i < widths.length; i++) {
            x.sheet(0, widths[i], 3);
            Due.row(x, 0, 0, same[i], 10 - same[i], 5 + 3 * same[i]);
            Due.due("35 lowest bits, " + widths[i], x.join(0), -1);
            x.write(0, 0, 1 + same[i]);
            Due.due("35 clash, " + widths[i], x.join(0), 0);
        }
        x.sheet(0, 16, 3);
        Due.row(x, 0, 0, 256, 10, 5);
        Due.due("35 256 of 16 bits", x.join(0), Due.BEYOND);
        x.sheet(0, 32, 3);
        Due.row(x, 0, 0, 65536, 10, 5);
        Due.due("35 65536 of 32 bits", x.join(0), Due.BEYOND);
        x.sheet(0, 8, 3);
        Due.row(x, 0, 0, 0, 10, 129);
        Due.due("35 129 of 8 bits", x.join(0), Due.BEYOND);
        Due.row(x, 0, 0, 255, 10, 1);
        Due.due("35 255 of 8 bits", x.join(0), Due.BEYOND);
    }
}
