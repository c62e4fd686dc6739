/** The boundary cases of the Terms, 5, of SPOTS and SHEETS, and of promises 36 to 40, sentence by sentence. */
final class EdgesOfSheetsTest {
    private EdgesOfSheetsTest() {
    }

    public static void main(String[] args) {
        holdNothingAtFirst();
        hold();
        holdNothing();
        asBeyond();
        asMissing();
        asKind();
        asOrder();
        missingAtFirst();
        sheetBeyond();
        sheetSize();
        sheetMost();
        sheetOrder();
        sheetMissing();
        sheetIsAllZero();
        write();
        writeMissing();
        writeBeyond();
        writeOrder();
        lowestBits();
        copyBeyondSheet();
        copyMissing();
        copyKind();
        copyBeyondNumbers();
        copyBelowZero();
        copyWraps();
        copyNone();
        copyOrder();
        copyAsTheyWere();
        copyMost();
        Due.end();
    }

    private static void holdNothingAtFirst() {
        for (int spot = 0; spot <= 9; spot++) {
            int s = spot;
            Edge.refused("5: SPOTS hold nothing at first", FieldPitches::new, x -> x.as(s, 0), Due.MISSING);
        }
    }

    private static void hold() {
        Edge.range("36: spot", Edge::busy, (x, v) -> x.hold(v, 1), 0, 9);
        Edge.range("36: party", Edge::busy, (x, v) -> x.hold(1, v), -1, 6);
        Edge.refused("36: no PARTIES", FieldPitches::new, x -> x.hold(0, 0), Due.BEYOND);
        Edge.answers("36: nothing, without PARTIES", FieldPitches::new, x -> x.hold(0, -1), 1);
        FieldPitches x = Edge.full();
        for (int spot = 0; spot <= 9; spot++) {
            Due.due("36: each SPOT", x.hold(spot, 23 - spot), 1);
        }
        for (int spot = 0; spot <= 9; spot++) {
            Due.due("36: what each holds", x.as(spot, 0), 23 - spot);
        }
    }

    private static void holdNothing() {
        FieldPitches x = Edge.busy();
        Due.due("36: nothing", x.hold(9, -1), 1);
        Due.due("36: it holds nothing", x.as(9, 0), Due.MISSING);
        Due.due("36: nothing again", x.hold(9, -1), 1);
        Due.due("36: another one stays", x.as(0, 0), 3);
        Due.due("36: PARTY 0", x.hold(9, 0), 1);
        Due.due("36: it holds PARTY 0", x.as(9, 0), 0);
    }

    private static void asBeyond() {
        Edge.range("37: spot", EdgesOfSheetsTest::allHold, (x, v) -> x.as(v, 0), 0, 9);
        Edge.range("37: kind", EdgesOfSheetsTest::allHold, (x, v) -> x.as(v == 0 ? 0 : 4, v), 0, 4);
        Edge.unchanged("37: as", Edge::busy, x -> x.as(0, 2));
    }

    /** SPOTS 0 to 4 hold PARTIES of kinds 0 to 4, 5 to 9 too. */
    private static FieldPitches allHold() {
        FieldPitches x = new FieldPitches();
        for (int spot = 0; spot <= 9; spot++) {
            x.party(spot % 5, 100, 0, 1);
            x.hold(spot, spot);
        }
        return x;
    }

    private static void asMissing() {
        Edge.refused("37: it holds nothing", Edge::busy, x -> x.as(1, 0), Due.MISSING);
        Edge.refused("37: as any kind", Edge::busy, x -> x.as(8, 4), Due.MISSING);
    }

    private static void asKind() {
        String[] under = {"0", "01", "02", "023", "024"};
        for (int kind = 0; kind <= 4; kind++) {
            for (int as = 0; as <= 4; as++) {
                int spot = kind;
                int top = as;
                if (under[kind].indexOf('0' + as) >= 0) {
                    Edge.answers("37: kind " + kind + " as " + as, EdgesOfSheetsTest::allHold, x -> x.as(spot, top), kind);
                } else {
                    Edge.refused("37: kind " + kind + " as " + as, EdgesOfSheetsTest::allHold, x -> x.as(spot, top), Due.KIND);
                }
            }
        }
    }

    private static void asOrder() {
        Edge.refused("37: BEYOND ahead of MISSING", Edge::busy, x -> x.as(1, 5), Due.BEYOND);
        Edge.refused("37: BEYOND ahead of MISSING", Edge::busy, x -> x.as(1, -1), Due.BEYOND);
        Edge.refused("37: BEYOND ahead of KIND", Edge::busy, x -> x.as(0, 5), Due.BEYOND);
    }

    private static void missingAtFirst() {
        for (int sheet = 0; sheet <= 3; sheet++) {
            int s = sheet;
            Edge.refused("5: SHEETS are MISSING at first", FieldPitches::new, x -> x.write(s, 0, 0), Due.MISSING);
        }
    }

    private static void sheetBeyond() {
        Edge.range("38: no such sheet", Edge::busy, (x, v) -> x.sheet(v, 8, 1), 0, 3);
        for (int bits : new int[] {0, 8, 16, 32}) {
            Edge.answers("38: bits " + bits, Edge::busy, x -> x.sheet(0, bits, 5), bits == 0 ? 0 : 5);
            Edge.refused("38: bits " + (bits - 1), Edge::busy, x -> x.sheet(0, bits - 1, 5), Due.BEYOND);
            Edge.refused("38: bits " + (bits + 1), Edge::busy, x -> x.sheet(0, bits + 1, 5), Due.BEYOND);
        }
        for (int bits : new int[] {-8, -16, -32, 24, 64, 4, 2, 256 + 8, Integer.MIN_VALUE, Integer.MAX_VALUE}) {
            Edge.refused("38: bits " + bits, Edge::busy, x -> x.sheet(0, bits, 5), Due.BEYOND);
        }
    }

    private static void sheetSize() {
        for (int bits : new int[] {0, 8, 16, 32}) {
            Edge.refused("38: n -1, bits " + bits, Edge::busy, x -> x.sheet(0, bits, -1), Due.SIZE);
            Edge.refused("38: the least n, bits " + bits, Edge::busy, x -> x.sheet(0, bits, Integer.MIN_VALUE), Due.SIZE);
            Edge.answers("38: n 0, bits " + bits, Edge::busy, x -> x.sheet(0, bits, 0), 0);
        }
    }

    private static void sheetMost() {
        for (int bits : new int[] {0, 8, 16, 32}) {
            Edge.answers("38: n 60, bits " + bits, Edge::busy, x -> x.sheet(0, bits, 60), bits == 0 ? 0 : 60);
            Edge.refused("38: n 61, bits " + bits, Edge::busy, x -> x.sheet(0, bits, 61), Due.BEYOND);
            Edge.refused("38: the greatest n, bits " + bits, Edge::busy, x -> x.sheet(0, bits, Integer.MAX_VALUE), Due.BEYOND);
        }
        FieldPitches x = new FieldPitches();
        x.sheet(3, 8, 60);
        Due.due("5: 60 numbers: the last", x.write(3, 59, 1), 1);
        Due.due("5: the one behind it", x.write(3, 60, 1), Due.BEYOND);
    }

    private static void sheetOrder() {
        Edge.refused("38: no such sheet, ahead of SIZE", Edge::busy, x -> x.sheet(4, 8, -1), Due.BEYOND);
        Edge.refused("38: no such sheet, ahead of SIZE", Edge::busy, x -> x.sheet(-1, 0, -1), Due.BEYOND);
        Edge.refused("38: other bits, ahead of SIZE", Edge::busy, x -> x.sheet(0, 9, -1), Due.BEYOND);
    }

    private static void sheetMissing() {
        FieldPitches x = Edge.busy();
        Due.due("38: it is MISSING: 0", x.sheet(0, 0, 60), 0);
        Due.due("38: it is", x.write(0, 0, 0), Due.MISSING);
        Due.due("38: also once more", x.sheet(0, 0, 1), 0);
        Due.due("38: others stay", x.write(1, 3, 0), 1);
        Due.due("38: a sheet of 0 numbers isn't", x.write(2, 0, 0), Due.BEYOND);
    }

    /** Rows of 0s are PITCH 0, NIGHT 0, 0 NIGHTS: with 1 NIGHT each they clash. */
    private static void sheetIsAllZero() {
        FieldPitches x = Edge.plain(2);
        x.sheet(0, 32, 60);
        for (int i = 0; i < 60; i++) {
            x.write(0, i, 1);
        }
        x.sheet(0, 32, 6);
        x.write(0, 2, 1);
        x.write(0, 5, 1);
        Due.due("38: PITCH 0, NIGHT 0, twice", x.join(0), 1);
        x.write(0, 3, 1);
        Due.due("38: PITCHES 0 and 1", x.join(0), -1);
        x.sheet(0, 32, 3);
        Due.due("38: 0 NIGHTS", x.join(0), Due.BEYOND);
        FieldPitches y = Edge.plain(2);
        y.sheet(0, 8, 3);
        Due.row(y, 0, 0, 1, 1, 1);
        y.sheet(0, 0, 0);
        y.sheet(0, 8, 3);
        Due.due("38: also after it was MISSING", y.join(0), Due.BEYOND);
    }

    private static void write() {
        Edge.range("39: no such number", Edge::busy, (x, v) -> x.write(0, v, 1), 0, 5);
        Edge.answers("39: any v", Edge::busy, x -> x.write(0, 0, Integer.MIN_VALUE), 1);
        Edge.answers("39: any v", Edge::busy, x -> x.write(0, 0, Integer.MAX_VALUE), 1);
    }

    private static void writeMissing() {
        Edge.refused("39: MISSING", Edge::busy, x -> x.write(3, 0, 1), Due.MISSING);
    }

    private static void writeBeyond() {
        for (int s : new int[] {-1, 4, Integer.MIN_VALUE, Integer.MAX_VALUE}) {
            Edge.refused("39: no such sheet", Edge::busy, x -> x.write(s, 0, 1), Due.BEYOND);
        }
        Edge.refused("39: a sheet of 0 numbers", Edge::busy, x -> x.write(2, 0, 1), Due.BEYOND);
        Edge.refused("39: a sheet of 0 numbers", Edge::busy, x -> x.write(2, -1, 1), Due.BEYOND);
    }

    private static void writeOrder() {
        Edge.refused("39: no such sheet, ahead of its number", Edge::busy, x -> x.write(4, 99, 1), Due.BEYOND);
        Edge.refused("39: MISSING ahead of no such number", Edge::busy, x -> x.write(3, -1, 1), Due.MISSING);
        Edge.refused("39: MISSING ahead of no such number", Edge::busy, x -> x.write(3, 60, 1), Due.MISSING);
    }

    /** The row (0, 5, 1) with one number by its lowest bits. */
    private static int joined(int bits, int i, int v) {
        FieldPitches x = Edge.plain(1);
        x.sheet(0, bits, 3);
        Due.row(x, 0, 0, 0, 5, 1);
        x.write(0, i, v);
        return x.join(0);
    }

    private static void lowestBits() {
        int[] v = {0, 255, 256, -256, 65535, 65536, -65536, 0x10000, Integer.MIN_VALUE, Integer.MAX_VALUE, -1};
        boolean[] isZero8 = {true, false, true, true, false, true, true, true, true, false, false};
        boolean[] isZero16 = {true, false, false, false, false, true, true, true, true, false, false};
        for (int i = 0; i < v.length; i++) {
            Due.due("39: PITCH 0 by 8 bits of " + v[i], joined(8, 0, v[i]), isZero8[i] ? -1 : Due.BEYOND);
            Due.due("39: PITCH 0 by 16 bits of " + v[i], joined(16, 0, v[i]), isZero16[i] ? -1 : Due.BEYOND);
            Due.due("39: PITCH 0 by 32 bits of " + v[i], joined(32, 0, v[i]), v[i] == 0 ? -1 : Due.BEYOND);
        }
        Due.due("39: NIGHT 99 by 8 bits", joined(8, 1, 256 + 99), -1);
        Due.due("39: NIGHT 100 by 8 bits", joined(8, 1, 256 + 100), Due.BEYOND);
        Due.due("39: 30 NIGHTS by 16 bits", joined(16, 2, -65536 + 30), -1);
        Due.due("39: 31 NIGHTS by 16 bits", joined(16, 2, -65536 + 31), Due.BEYOND);
        Due.due("39: all of 32 bits", joined(32, 2, 65536 + 30), Due.BEYOND);
    }

    private static void copyBeyondSheet() {
        Edge.range("40: no such sheet, the first", EdgesOfSheetsTest::fourSheets, (x, v) -> x.copy(v, 0, 0, 0, 1), 0, 3);
        Edge.range("40: no such sheet, the other", EdgesOfSheetsTest::fourSheets, (x, v) -> x.copy(0, 0, v, 0, 1), 0, 3);
    }

    private static FieldPitches fourSheets() {
        FieldPitches x = Edge.plain(2);
        for (int s = 0; s < 4; s++) {
            x.sheet(s, 16, 3);
            Due.row(x, s, 0, s % 2, 5 + s, 1 + s);
        }
        return x;
    }

    private static void copyMissing() {
        Edge.refused("40: the first is MISSING", Edge::busy, x -> x.copy(3, 0, 0, 0, 0), Due.MISSING);
        Edge.refused("40: the other is MISSING", Edge::busy, x -> x.copy(0, 0, 3, 0, 0), Due.MISSING);
        Edge.refused("40: both are", Edge::busy, x -> x.copy(3, 0, 3, 0, 0), Due.MISSING);
    }

    private static void copyKind() {
        Edge.refused("40: 8 and 16 bits", Edge::busy, x -> x.copy(0, 0, 1, 0, 1), Due.KIND);
        Edge.refused("40: 16 and 8 bits", Edge::busy, x -> x.copy(1, 0, 0, 0, 1), Due.KIND);
        Edge.refused("40: none of them", Edge::busy, x -> x.copy(1, 0, 0, 0, 0), Due.KIND);
        Edge.answers("40: 8 and 8 bits", Edge::busy, x -> x.copy(0, 0, 2, 0, 0), 0);
    }

    /** Sheets of 9 and 6 numbers. */
    private static FieldPitches two() {
        FieldPitches x = Edge.plain(2);
        x.sheet(0, 32, 9);
        Due.row(x, 0, 0, 0, 1, 2);
        Due.row(x, 0, 1, 0, 3, 3);
        Due.row(x, 0, 2, 1, 3, 4);
        x.sheet(1, 32, 6);
        Due.row(x, 1, 0, 0, 50, 1);
        Due.row(x, 1, 1, 0, 60, 1);
        return x;
    }

    private static void copies(String what, int from, int to, int n) {
        Edge.answers("40: " + what, EdgesOfSheetsTest::two, x -> x.copy(0, from, 1, to, n), n);
    }

    private static void refuses(String what, int from, int to, int n) {
        Edge.refused("40: " + what, EdgesOfSheetsTest::two, x -> x.copy(0, from, 1, to, n), Due.BEYOND);
    }

    private static void copyBeyondNumbers() {
        copies("all that the other has", 0, 0, 6);
        refuses("the other has not so many", 0, 0, 7);
        copies("up to the first one's end", 3, 0, 6);
        refuses("the first has not so many", 4, 0, 6);
        copies("its last number", 8, 5, 1);
        refuses("none is at its end", 9, 0, 1);
        refuses("none is at the other's end", 0, 6, 1);
        copies("up to the other's end", 0, 4, 2);
        refuses("over the other's end", 0, 4, 3);
        refuses("more than all", 0, 0, 61);
    }

    private static void copyBelowZero() {
        refuses("from -1", -1, 0, 1);
        refuses("to -1", 0, -1, 1);
        refuses("n -1", 0, 0, -1);
        refuses("n -1 from the end on", 9, 6, -1);
        refuses("from -1, none", -1, 0, 0);
        refuses("to -1, none", 0, -1, 0);
        refuses("all below 0", -1, -1, -1);
        refuses("the least from", Integer.MIN_VALUE, 0, 1);
        refuses("the least to", 0, Integer.MIN_VALUE, 1);
        refuses("the least n", 0, 0, Integer.MIN_VALUE);
        refuses("the least n from 1 on", 1, 1, Integer.MIN_VALUE);
    }

    private static void copyWraps() {
        int most = Integer.MAX_VALUE;
        refuses("the greatest from", most, 0, 1);
        refuses("the greatest to", 0, most, 1);
        refuses("the greatest n", 0, 0, most);
        refuses("from and n wrap", 1, 0, most);
        refuses("to and n wrap", 0, 1, most);
        refuses("all wrap", most, most, most);
        refuses("the greatest from, none", most, 0, 0);
    }

    private static void copyNone() {
        copies("none", 0, 0, 0);
        copies("none from its end on", 9, 0, 0);
        copies("none to the other's end", 0, 6, 0);
        copies("none, both ends", 9, 6, 0);
        refuses("none from behind its end on", 10, 0, 0);
        refuses("none to behind the other's end", 0, 7, 0);
        Edge.unchanged("40: none changes nothing", EdgesOfSheetsTest::two, x -> x.copy(0, 9, 1, 6, 0));
        Edge.answers("40: none of 0 numbers", Edge::busy, x -> x.copy(2, 0, 2, 0, 0), 0);
        Edge.refused("40: one of 0 numbers", Edge::busy, x -> x.copy(2, 0, 2, 0, 1), Due.BEYOND);
    }

    private static void copyOrder() {
        Edge.refused("40: no such sheet, ahead of MISSING", Edge::busy, x -> x.copy(3, 0, 4, 0, 1), Due.BEYOND);
        Edge.refused("40: no such sheet, ahead of MISSING", Edge::busy, x -> x.copy(4, 0, 3, 0, 1), Due.BEYOND);
        Edge.refused("40: MISSING ahead of KIND", Edge::busy, x -> x.copy(0, 0, 3, 0, 1), Due.MISSING);
        Edge.refused("40: MISSING ahead of BEYOND", Edge::busy, x -> x.copy(3, -1, 0, -1, -1), Due.MISSING);
        Edge.refused("40: KIND ahead of BEYOND", Edge::busy, x -> x.copy(0, -1, 1, -1, -1), Due.KIND);
        Edge.refused("40: KIND ahead of BEYOND", Edge::busy, x -> x.copy(0, 0, 1, 0, 61), Due.KIND);
    }

    private static void copyAsTheyWere() {
        FieldPitches x = two();
        Due.due("40: onto the numbers behind", x.copy(0, 0, 0, 3, 6), 6);
        // (0, 1, 2) (0, 1, 2) (0, 3, 3)
        Due.due("40: as they all were", x.join(0), 1);
        x.write(0, 3, 1);
        Due.due("40: the third is what the second was", x.join(0), -1);
        FieldPitches y = two();
        Due.due("40: onto the numbers ahead", y.copy(0, 3, 0, 0, 6), 6);
        // (0, 3, 3) (1, 3, 4) (1, 3, 4)
        Due.due("40: as they all were", y.join(0), 2);
        Edge.unchanged("40: onto themselves", EdgesOfSheetsTest::two, z -> z.copy(0, 0, 0, 0, 9));
        FieldPitches z = two();
        z.copy(0, 3, 1, 0, 6);
        Due.due("40: the first sheet stays", z.join(0), -1);
        z.copy(0, 0, 1, 3, 3);
        Due.due("40: (0, 3, 3) and (0, 1, 2)", z.join(1), -1);
        z.copy(0, 3, 1, 3, 3);
        Due.due("40: (0, 3, 3) twice", z.join(1), 1);
    }

    private static void copyMost() {
        FieldPitches x = Edge.plain(1);
        x.sheet(0, 8, 60);
        x.sheet(3, 8, 60);
        for (int i = 0; i < 20; i++) {
            Due.row(x, 0, i, 0, i == 19 ? 0 : i, 1);
        }
        Due.due("40: 60 numbers", x.copy(0, 0, 3, 0, 60), 60);
        Due.due("40: the last row too", x.join(3), 19);
        Due.due("40: 61 numbers", x.copy(0, 0, 3, 0, 61), Due.BEYOND);
        Due.due("40: the last number", x.copy(0, 59, 3, 59, 1), 1);
    }
}
