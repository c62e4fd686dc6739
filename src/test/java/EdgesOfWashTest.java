/** The boundary cases of the Terms, 5, of WASHERS, and of promises 32 to 35, sentence by sentence. */
final class EdgesOfWashTest {
    private EdgesOfWashTest() {
    }

    public static void main(String[] args) {
        mostWashers();
        wash();
        washOrder();
        block();
        noWashers();
        oneWasher();
        servedByMinutes();
        likeOnesAsTold();
        asSoonAsOneIs();
        longestWait();
        allDone();
        howManyWait();
        mostShowers();
        dry();
        joinBeyond();
        joinMissing();
        joinSize();
        joinRowPitch();
        joinRowFirst();
        joinRowNights();
        joinRowLast();
        joinOrder();
        joinAllRowsAreLookedAt();
        joinClashes();
        joinRowsAhead();
        joinFirstRow();
        joinNone();
        joinOthersThanOn();
        Due.end();
    }

    private static FieldPitches washers(int... minutesAndTakes) {
        FieldPitches x = new FieldPitches();
        for (int i = 0; i < minutesAndTakes.length; i += 2) {
            Due.due("wash", x.wash(minutesAndTakes[i], minutesAndTakes[i + 1]), i / 2 + 1);
        }
        return x;
    }

    private static void blocks(String what, FieldPitches x, int showers, int wait, int done, int waiting) {
        Due.due("5: " + what + ", the longest wait", x.block(showers, 0), wait);
        Due.due("5: " + what + ", all are done", x.block(showers, 1), done);
        Due.due("5: " + what + ", how many wait", x.block(showers, 2), waiting);
    }

    private static void mostWashers() {
        FieldPitches x = new FieldPitches();
        for (int n = 1; n <= 20; n++) {
            Due.due("5: WASHERS, at most 20", x.wash(999, 60), n);
        }
        Due.due("5: the 21st", x.wash(999, 60), Due.FULL);
        Due.due("32: how many there are", x.count(5), 20);
        x.dry();
        Due.due("32: from 1 on again", x.wash(999, 60), 1);
    }

    private static void wash() {
        Edge.range("32: minute", Edge::busy, (x, v) -> x.wash(v, 1), 0, 999);
        Edge.range("32: takes", Edge::busy, (x, v) -> x.wash(0, v), 1, 60);
        Edge.answers("32: how many there are", Edge::busy, x -> x.wash(0, 1), 4);
        Edge.refused("32: FULL", Edge::full, x -> x.wash(999, 60), Due.FULL);
    }

    private static void washOrder() {
        Edge.refused("32: BEYOND ahead of FULL, minute", Edge::full, x -> x.wash(1000, 1), Due.BEYOND);
        Edge.refused("32: BEYOND ahead of FULL, takes", Edge::full, x -> x.wash(0, 61), Due.BEYOND);
    }

    private static void block() {
        Edge.range("33: showers", Edge::busy, (x, v) -> x.block(v, 0), 1, 6);
        Edge.range("33: what", Edge::busy, (x, v) -> x.block(1, v), 0, 2);
        Edge.unchanged("33: block", Edge::busy, x -> x.block(1, 0));
        Edge.refused("33: showers 0 without WASHERS", FieldPitches::new, x -> x.block(0, 1), Due.BEYOND);
    }

    private static void noWashers() {
        for (int showers = 1; showers <= 6; showers++) {
            blocks("no WASHERS", new FieldPitches(), showers, 0, 0, 0);
        }
        FieldPitches x = Edge.busy();
        x.block(1, 0);
        x.dry();
        blocks("no WASHERS any more", x, 1, 0, 0, 0);
    }

    private static void oneWasher() {
        blocks("the least", washers(0, 1), 1, 0, 1, 0);
        blocks("the greatest", washers(999, 60), 1, 0, 1059, 0);
        blocks("the greatest, 6 showers", washers(999, 60), 6, 0, 1059, 0);
    }

    private static void servedByMinutes() {
        blocks("told later, comes first", washers(10, 50, 9, 5), 1, 4, 64, 1);
        blocks("told first, comes first", washers(9, 5, 10, 50), 1, 4, 64, 1);
        blocks("three, told backwards", washers(20, 1, 10, 10, 0, 15), 1, 5, 26, 2);
        blocks("of all orders", washers(500, 1, 0, 1, 999, 1, 250, 1), 1, 0, 1000, 0);
    }

    private static void likeOnesAsTold() {
        blocks("the short one first", washers(10, 1, 10, 60), 1, 1, 71, 1);
        blocks("the long one first", washers(10, 60, 10, 1), 1, 60, 71, 1);
        blocks("of three like ones", washers(10, 5, 10, 7, 10, 60), 2, 5, 75, 1);
        blocks("of three like ones", washers(10, 60, 10, 7, 10, 5), 2, 7, 70, 1);
        blocks("behind one that comes later", washers(11, 3, 10, 20, 10, 1), 1, 20, 34, 2);
    }

    private static void asSoonAsOneIs() {
        blocks("it is free in that MINUTE", washers(0, 10, 10, 10), 1, 0, 20, 0);
        blocks("it is free a MINUTE later", washers(0, 11, 10, 10), 1, 1, 21, 1);
        blocks("it was free a MINUTE ahead", washers(0, 9, 10, 10), 1, 0, 20, 0);
        blocks("the other shower is free first", washers(0, 30, 0, 10, 5, 10), 2, 5, 30, 1);
        blocks("the first shower is free first", washers(0, 10, 0, 30, 5, 10), 2, 5, 30, 1);
        blocks("both at once", washers(0, 10, 0, 10, 5, 10, 5, 20), 2, 5, 30, 2);
    }

    private static void longestWait() {
        blocks("not the last one's", washers(0, 60, 1, 1, 59, 1), 1, 59, 62, 2);
        FieldPitches x = new FieldPitches();
        for (int n = 0; n < 20; n++) {
            x.wash(0, 60);
        }
        blocks("the longest that can be", x, 1, 1140, 1200, 19);
    }

    private static void allDone() {
        blocks("not the last one's", washers(0, 60, 1, 1), 2, 0, 60, 0);
        blocks("the last shower is free again", washers(0, 60, 1, 60), 2, 0, 61, 0);
        FieldPitches x = new FieldPitches();
        for (int n = 0; n < 20; n++) {
            x.wash(999, 60);
        }
        blocks("the latest that can be", x, 1, 1140, 2199, 19);
    }

    private static void howManyWait() {
        FieldPitches x = washers(0, 2, 0, 2, 0, 2, 0, 2);
        int[] waiting = {3, 2, 1, 0, 0, 0};
        for (int showers = 1; showers <= 6; showers++) {
            Due.due("33: how many wait, " + showers, x.block(showers, 2), waiting[showers - 1]);
        }
    }

    private static void mostShowers() {
        FieldPitches x = new FieldPitches();
        for (int n = 0; n < 7; n++) {
            x.wash(0, 10);
        }
        blocks("7 at 6 showers", x, 6, 10, 20, 1);
        blocks("7 at 5 showers", x, 5, 10, 20, 2);
        blocks("7 at 1 shower", x, 1, 60, 70, 6);
        blocks("6 again, as it was", x, 6, 10, 20, 1);
    }

    private static void dry() {
        Edge.answers("34: none", FieldPitches::new, x -> x.dry(), 0);
        Edge.answers("34: how many there were", Edge::busy, x -> x.dry(), 3);
        Edge.answers("34: all 20", Edge::full, x -> x.dry(), 20);
        FieldPitches x = Edge.full();
        x.dry();
        Due.due("34: no WASHER is there any more", x.count(5), 0);
        Due.due("34: again", x.dry(), 0);
        x.wash(7, 5);
        blocks("the new one alone", x, 1, 0, 12, 0);
    }

    /** PITCHES 0 to 2; 1 is taken in NIGHTS 10 to 14. Sheet 0 of some bits holds the rows told. */
    private static FieldPitches book(int bits, int... numbers) {
        FieldPitches x = Edge.plain(3);
        Edge.on(x, 1, 10, 5);
        x.sheet(0, bits, numbers.length);
        for (int i = 0; i < numbers.length; i++) {
            x.write(0, i, numbers[i]);
        }
        return x;
    }

    private static void joins(String what, int due, int... numbers) {
        for (int bits : new int[] {8, 16, 32}) {
            Edge.answers("35: " + what + ", " + bits, () -> book(bits, numbers), x -> x.join(0), due);
        }
        Edge.unchanged("35: " + what, () -> book(32, numbers), x -> x.join(0));
    }

    private static void refuses(String what, int finding, int... numbers) {
        for (int bits : new int[] {8, 16, 32}) {
            Edge.refused("35: " + what + ", " + bits, () -> book(bits, numbers), x -> x.join(0), finding);
        }
    }

    private static void joinBeyond() {
        Edge.range("35: no such sheet", EdgesOfWashTest::fourSheets, (x, v) -> x.join(v), 0, 3);
    }

    private static FieldPitches fourSheets() {
        FieldPitches x = Edge.plain(1);
        for (int s = 0; s < 4; s++) {
            x.sheet(s, 8, 0);
        }
        return x;
    }

    private static void joinMissing() {
        Edge.refused("35: MISSING at first", FieldPitches::new, x -> x.join(0), Due.MISSING);
        Edge.refused("35: MISSING", Edge::busy, x -> x.join(3), Due.MISSING);
        FieldPitches x = book(8, 0, 1, 1);
        x.sheet(0, 0, 0);
        Due.due("35: MISSING again", x.join(0), Due.MISSING);
    }

    private static void joinSize() {
        for (int n = 0; n <= 60; n++) {
            FieldPitches x = Edge.plain(1);
            x.sheet(0, 16, n);
            int due = n == 0 ? -1 : n % 3 == 0 ? Due.BEYOND : Due.SIZE;
            Due.due("35: parted in threes: " + n, x.join(0), due);
        }
        refuses("1 number", Due.SIZE, 0);
        refuses("2 numbers", Due.SIZE, 0, 1);
        refuses("4 numbers", Due.SIZE, 0, 1, 1, 0);
        joins("3 numbers", -1, 0, 1, 1);
    }

    private static void joinRowPitch() {
        joins("PITCH 0", -1, 0, 1, 1);
        joins("the last PITCH", -1, 2, 1, 1);
        refuses("no such PITCH", Due.BEYOND, 3, 1, 1);
        refuses("no such PITCH: -1", Due.BEYOND, -1, 1, 1);
        refuses("no such PITCH: 127", Due.BEYOND, 127, 1, 1);
        refuses("no such PITCH: 128", Due.BEYOND, 128, 1, 1);
        refuses("no such PITCH: the greatest", Due.BEYOND, Integer.MAX_VALUE, 1, 1);
        Edge.refused("35: no PITCHES", EdgesOfWashTest::noPitches, x -> x.join(0), Due.BEYOND);
    }

    private static FieldPitches noPitches() {
        FieldPitches x = new FieldPitches();
        x.sheet(0, 8, 3);
        x.write(0, 2, 1);
        return x;
    }

    private static void joinRowFirst() {
        joins("first NIGHT 0", -1, 0, 0, 1);
        joins("first NIGHT 99", -1, 0, 99, 1);
        refuses("first NIGHT -1", Due.BEYOND, 0, -1, 1);
        refuses("first NIGHT -1, with more", Due.BEYOND, 0, -1, 5);
        refuses("first NIGHT 100", Due.BEYOND, 0, 100, 1);
        refuses("first NIGHT 200", Due.BEYOND, 0, 200, 1);
        refuses("the greatest first NIGHT wraps not", Due.BEYOND, 0, Integer.MAX_VALUE, 1);
        Edge.answers("35: also ahead of TODAY", () -> Edge.until(book(8, 0, 0, 1), 99), x -> x.join(0), -1);
    }

    private static void joinRowNights() {
        joins("1 NIGHT", -1, 0, 1, 1);
        joins("30 NIGHTS", -1, 0, 1, 30);
        refuses("0 NIGHTS", Due.BEYOND, 0, 1, 0);
        refuses("31 NIGHTS", Due.BEYOND, 0, 1, 31);
        refuses("-1 NIGHTS", Due.BEYOND, 0, 1, -1);
        refuses("the most NIGHTS wrap not", Due.BEYOND, 0, 1, Integer.MAX_VALUE);
    }

    private static void joinRowLast() {
        joins("the last one is 99", -1, 0, 70, 30);
        joins("the last one is 99", -1, 0, 98, 2);
        refuses("the last one is 100", Due.BEYOND, 0, 71, 30);
        refuses("the last one is 100", Due.BEYOND, 0, 99, 2);
    }

    private static void joinOrder() {
        Edge.refused("35: SIZE ahead of BEYOND", () -> book(32, 99, 999, 99, 1), x -> x.join(0), Due.SIZE);
        Edge.refused("35: SIZE ahead of a clash", () -> book(8, 1, 10, 1, 0), x -> x.join(0), Due.SIZE);
        refuses("BEYOND ahead of a clash in that row", Due.BEYOND, 1, 10, 31);
    }

    private static void joinAllRowsAreLookedAt() {
        refuses("a clash, then BEYOND", Due.BEYOND, 1, 10, 1, 3, 1, 1);
        refuses("rows that clash, then BEYOND", Due.BEYOND, 0, 1, 1, 0, 1, 1, 0, 1, 0);
        refuses("BEYOND, then a clash", Due.BEYOND, 3, 1, 1, 1, 10, 1);
    }

    private static void joinClashes() {
        joins("its first NIGHT", 0, 1, 10, 1);
        joins("its last NIGHT", 0, 1, 14, 1);
        joins("up to its first NIGHT", 0, 1, 5, 6);
        joins("from its last NIGHT on", 0, 1, 14, 30);
        joins("all around", 0, 1, 1, 30);
        joins("up to the NIGHT ahead", -1, 1, 5, 5);
        joins("from the NIGHT behind on", -1, 1, 15, 30);
        joins("on another PITCH", -1, 0, 10, 5);
        for (int night = 0; night <= 99; night++) {
            joins("NIGHT " + night + " twice", 1, 2, night, 1, 2, night, 1);
            joins("NIGHT " + night + " on two PITCHES", -1, 0, night, 1, 2, night, 1);
        }
    }

    private static void joinRowsAhead() {
        joins("the same twice", 1, 0, 10, 5, 0, 10, 5);
        joins("one NIGHT", 1, 0, 10, 5, 0, 14, 1);
        joins("one NIGHT, ahead", 1, 0, 10, 5, 0, 9, 2);
        joins("side by side", -1, 0, 10, 5, 0, 15, 1, 0, 9, 1);
        joins("on two PITCHES", -1, 0, 10, 5, 2, 10, 5);
        joins("with the first of three", 2, 0, 10, 5, 2, 10, 5, 0, 12, 1);
        joins("with the second of three", 2, 2, 10, 5, 0, 10, 5, 0, 12, 1);
    }

    private static void joinFirstRow() {
        joins("the first row, from 0 on", 0, 1, 10, 1, 1, 10, 1);
        joins("the first of two that clash", 1, 0, 1, 1, 1, 12, 1, 0, 1, 1);
        joins("a row ahead, first", 1, 0, 1, 1, 0, 1, 1, 1, 12, 1);
        int[] rows = new int[60];
        for (int i = 0; i < 20; i++) {
            rows[3 * i] = 0;
            rows[3 * i + 1] = i;
            rows[3 * i + 2] = 1;
        }
        rows[58] = 0;
        joins("the last of 20 rows", 19, rows);
    }

    private static void joinNone() {
        joins("no rows", -1);
        int[] rows = new int[60];
        for (int i = 0; i < 20; i++) {
            rows[3 * i] = 0;
            rows[3 * i + 1] = 99 - i;
            rows[3 * i + 2] = 1;
        }
        joins("20 rows", -1, rows);
        Edge.answers("35: no rows, no PITCHES", EdgesOfWashTest::noRows, x -> x.join(0), -1);
    }

    private static FieldPitches noRows() {
        FieldPitches x = new FieldPitches();
        x.sheet(0, 8, 0);
        return x;
    }

    private static void joinOthersThanOn() {
        FieldPitches x = book(8, 1, 10, 5);
        Due.due("35: it isn't FREE", x.join(0), 0);
        x.put(0, 2);
        Due.due("35: it is FREE now", x.join(0), -1);
        x.put(0, 1);
        x.cancel(0);
        Due.due("35: FREE of one that was CANCELLED", x.join(0), -1);
        x.party(0, 100, 0, 1005);
        Due.due("35: FREE of one that waits", x.join(0), -1);
    }
}
