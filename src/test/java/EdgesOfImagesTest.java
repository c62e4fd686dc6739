import java.util.function.ToIntFunction;

/** The boundary cases of promises 41 to 45, sentence by sentence. */
final class EdgesOfImagesTest {
    private EdgesOfImagesTest() {
    }

    public static void main(String[] args) {
        image();
        imageOfPitches();
        imageOfParties();
        imageOfMoney();
        imageOfPower();
        imageOfWashersAndSpots();
        imageWithoutTape();
        imageWithoutSheets();
        imageOfNew();
        imageOfFull();
        imageOfReviews();
        keptLatest();
        keptStays();
        undoNone();
        undoTwice();
        undoOfFewer();
        undoneIsNowhere();
        tear();
        tearOnly();
        count();
        countOfNone();
        countOfAll();
        countHere();
        countWaiting();
        status();
        statusBeyond();
        statusOfNoFinding();
        statusOfEach();
        statusAndUndo();
        Due.end();
    }

    /** A busy field with an image of it as it is, and an empty tape. */
    private static FieldPitches imaged() {
        FieldPitches x = Edge.busy();
        x.wipe();
        x.image();
        return x;
    }

    /** What is done is taken back, once and once more, and nothing else is. */
    private static void takenBack(String what, ToIntFunction<FieldPitches> change) {
        FieldPitches x = imaged();
        int answer = change.applyAsInt(x);
        Due.holds("42: " + what + " is done, but " + answer, answer > -1000000);
        Edge.unchanged("42: " + what, EdgesOfImagesTest::imaged, y -> changedAndBack(y, change));
        Edge.unchanged("42: " + what + ", twice", EdgesOfImagesTest::imaged,
                y -> changedAndBack(y, change) + changedAndBack(y, change));
        kept("41: " + what, change);
    }

    private static int changedAndBack(FieldPitches x, ToIntFunction<FieldPitches> change) {
        change.applyAsInt(x);
        return x.undo();
    }

    /** What is done ahead of the image is kept by it. */
    private static void kept(String what, ToIntFunction<FieldPitches> change) {
        Edge.unchanged(what, () -> changedAndImaged(change), x -> changedAndBack(x, y -> Edge.until(y, 40).dry()));
    }

    private static FieldPitches changedAndImaged(ToIntFunction<FieldPitches> change) {
        FieldPitches x = imaged();
        change.applyAsInt(x);
        x.image();
        return x;
    }

    private static void image() {
        Edge.answers("41: with nothing kept", FieldPitches::new, x -> x.image(), 1);
        Edge.answers("41: with something kept", Edge::busy, x -> x.image(), 1);
        FieldPitches x = Edge.busy();
        x.tear();
        Due.due("41: after tear()", x.image(), 1);
        Due.due("41: it is kept", x.undo(), 2);
    }

    private static void imageOfPitches() {
        takenBack("TODAY", x -> x.nights(30));
        takenBack("a PITCH", x -> x.pitch(9999, 3099, 932, 73));
        takenBack("SHADE", x -> x.shade(1, 0));
        takenBack("SHADE of the first", x -> x.shade(0, 9));
        takenBack("SHADE of the last", x -> x.shade(2, 9));
        takenBack("a REVIEW", x -> Edge.until(x, 5).review(3, 1));
    }

    private static void imageOfParties() {
        takenBack("a PARTY", x -> x.party(3, 100, 7, 2030));
        takenBack("NEAR", x -> x.near(1, 0));
        takenBack("NEAR of the first", x -> x.near(0, 6));
        takenBack("NEAR of the last", x -> x.near(6, 0));
        takenBack("NEAR nobody", x -> x.near(1, -1));
        takenBack("put", x -> x.put(4, 0));
        takenBack("a PARTY and put", x -> x.put(x.party(0, 100, 0, 5001), 2));
        takenBack("plan", x -> x.plan(1 << 4));
        takenBack("CANCELLED", x -> x.cancel(1));
    }

    private static void imageOfMoney() {
        takenBack("PAID", x -> x.pay(3));
        takenBack("a TEXT of LAW 0", x -> Due.tell(x, 0, "7"));
        takenBack("a TEXT of LAW 1", x -> Due.tell(x, 1, "1+2*3-4+5*6-7+8*9"));
        takenBack("no TEXT of LAW 0", x -> x.repeal(0));
        takenBack("no TEXT of LAW 1", x -> x.repeal(1));
        takenBack("THE TILL", x -> x.cancel(4));
    }

    private static void imageOfPower() {
        takenBack("HOURS and AMPS", x -> x.use(3, 0xFFFFFF, 40));
        takenBack("no HOURS", x -> x.use(3, 0, 0));
        for (int post = 0; post < 4; post++) {
            int p = post;
            takenBack("LIMIT of " + p, x -> x.limit(p, 200 - p));
        }
    }

    private static void imageOfWashersAndSpots() {
        takenBack("a WASHER", x -> x.wash(0, 60));
        takenBack("no WASHER", x -> x.dry());
        takenBack("WASHERS anew", x -> x.dry() + x.wash(500, 7) + x.wash(100, 7));
        takenBack("a SPOT", x -> x.hold(9, 1));
        takenBack("a SPOT with nothing", x -> x.hold(0, -1));
        takenBack("a SPOT that held nothing", x -> x.hold(5, 6));
    }

    private static void imageWithoutTape() {
        FieldPitches x = Edge.busy();
        x.image();
        x.wipe();
        Due.type(x, "7");
        x.undo();
        Due.due("41: all but THE TAPE: what it has", x.count(4), 1);
        x.law(0);
        x.undo();
        Due.due("41: it stays empty", x.wipe(), 0);
    }

    private static void imageWithoutSheets() {
        FieldPitches x = Edge.busy();
        x.image();
        x.write(0, 3, 0);
        x.sheet(1, 32, 60);
        x.sheet(2, 0, 0);
        x.sheet(3, 8, 3);
        x.undo();
        Due.due("41: all but SHEETS: a number", x.join(0), 1);
        Due.due("41: a size", x.write(1, 59, 1), 1);
        Due.due("41: one that is MISSING", x.join(2), Due.MISSING);
        Due.due("41: one that was", x.join(3), Due.BEYOND);
    }

    private static void imageOfNew() {
        FieldPitches x = new FieldPitches();
        x.image();
        x.pitch(0, 3000, 932, 73);
        x.party(4, 3032, 7, 30);
        x.wash(0, 1);
        x.nights(50);
        Due.due("42: TODAY is 0", x.undo(), 0);
        for (int what = 0; what <= 7; what++) {
            Due.due("42: as new " + what, x.count(what), 0);
        }
        Due.due("42: no PITCH", x.pitchOf(0, 0), Due.BEYOND);
        Due.due("42: no PARTY", x.partyOf(0, 0), Due.BEYOND);
    }

    private static void imageOfFull() {
        FieldPitches x = Edge.full();
        x.image();
        x.dry();
        Edge.until(x, 99);
        Due.due("42: a full field", x.undo(), 0);
        Due.due("42: 12 PITCHES", x.pitch(0, 100, 0, 0), Due.FULL);
        Due.due("42: 24 PARTIES", x.party(0, 100, 0, 501), Due.FULL);
        Due.due("42: 20 WASHERS", x.wash(0, 1), Due.FULL);
        Due.due("42: the last WASHER too", x.block(1, 1), 101);
    }

    /** REVIEWS of one PITCH, one ahead of the image and one behind it. */
    private static void imageOfReviews() {
        FieldPitches x = Edge.plain(1);
        Edge.on(x, 0, 0, 1);
        Edge.on(x, 0, 1, 1);
        Edge.until(x, 5);
        x.review(0, 5);
        x.image();
        for (int stars = 1; stars <= 5; stars++) {
            Due.due("42: its stars are taken back", x.stars(0), 500);
            Due.due("42: it gave none", x.review(1, stars), 2);
            Due.due("42: both", x.stars(0), (500 + 100 * stars) / 2);
            Due.due("42: it gave one", x.review(1, 3), Due.STATE);
            x.undo();
            Due.due("42: the other gave one", x.review(0, 3), Due.STATE);
        }
    }

    private static void keptLatest() {
        FieldPitches x = Edge.plain(1);
        x.image();
        x.nights(1);
        x.image();
        x.nights(1);
        x.image();
        x.nights(50);
        Due.due("42: what was kept latest", x.undo(), 2);
        Due.due("42: not what was kept earlier", x.undo(), 2);
        x.tear();
        Due.due("43: nothing is kept of the earlier ones", x.undo(), Due.NONE);
    }

    private static void keptStays() {
        FieldPitches x = Edge.plain(1);
        x.image();
        for (int i = 0; i < 5; i++) {
            x.nights(10);
            Due.due("42: which stays", x.undo(), 0);
        }
        Due.due("43: it is kept till then", x.tear(), 1);
    }

    private static void undoNone() {
        Edge.refused("42: NONE: nothing is kept", () -> Edge.plain(2), x -> x.undo(), Due.NONE);
        Edge.refused("42: NONE: nothing is kept any more", EdgesOfImagesTest::torn, x -> x.undo(), Due.NONE);
    }

    private static FieldPitches torn() {
        FieldPitches x = Edge.busy();
        x.tear();
        return x;
    }

    private static void undoTwice() {
        Edge.answers("42: TODAY", Edge::busy, x -> x.undo(), 1);
        Edge.answers("42: with nothing to take back", EdgesOfImagesTest::imaged, x -> x.undo(), 2);
        Edge.unchanged("42: with nothing to take back", EdgesOfImagesTest::imaged, x -> x.undo());
    }

    /** What had a number and was taken back leaves nothing to the next one that has it. */
    private static void undoOfFewer() {
        FieldPitches x = Edge.plain(0);
        x.image();
        x.pitch(9999, 3099, 932, 73);
        x.party(0, 100, 0, 1);
        x.party(0, 100, 0, 1);
        x.put(0, 0);
        x.near(0, 1);
        x.use(0, 0xFFFFFF, 40);
        x.pay(0);
        x.hold(0, 0);
        x.nights(1);
        x.review(0, 5);
        x.undo();
        x.pitch(0, 3000, 0, 0);
        x.party(1, 100, 0, 1);
        Due.due("42: no REVIEW", x.stars(0), Due.NONE);
        Due.due("42: nobody is ON it", x.who(0, 0), -1);
        int[] due = {1, 1, 0, 0, 0, 1, -1, -1, -1, 1};
        for (int what = 0; what <= 9; what++) {
            Due.due("42: a new PARTY, what " + what, x.partyOf(0, what), due[what]);
        }
        Due.due("42: the SPOT holds nothing", x.as(0, 0), Due.MISSING);
        x.put(0, 0);
        Due.due("42: it uses nothing", x.load(0, 0), 0);
        x.nights(1);
        Due.due("42: it can give a REVIEW", x.review(0, 1), 1);
        Due.due("42: its own alone", x.stars(0), 100);
    }

    /** A PARTY that was taken back is nowhere. */
    private static void undoneIsNowhere() {
        FieldPitches x = Edge.plain(2);
        Edge.on(x, 0, 0, 1);
        Due.tell(x, 0, "o");
        x.sheet(0, 8, 3);
        Due.row(x, 0, 0, 0, 2, 1);
        x.image();
        Edge.on(x, 0, 2, 1);
        x.use(1, 1, 40);
        x.near(1, 0);
        Due.due("42: a GAP", x.gaps(0), 1);
        x.undo();
        Due.due("42: no GAP", x.gaps(0), 0);
        Due.due("42: nobody is ON it", x.who(0, 2), -1);
        Due.due("42: it is FREE", x.join(0), -1);
        Due.due("42: none waits", x.count(7), 0);
        x.nights(2);
        Due.due("42: nobody is HERE", x.count(6), 0);
        Due.due("42: no LOAD", x.load(0, 0), 0);
        Due.due("42: nobody is WET", x.wet(1), 0);
        Due.due("42: nor is rescued", x.rescue(1, -1), 0);
        Due.due("42: no plan for it", x.plan(2), Due.BEYOND);
        Due.due("42: another one comes", x.party(0, 100, 0, 201), 1);
        Due.due("42: with no others", x.says(0, 1), 0);
        Due.due("42: where it was", x.put(1, 0), -1);
    }

    private static void tear() {
        Edge.answers("43: 1 if something was", Edge::busy, x -> x.tear(), 1);
        Edge.answers("43: else 0", FieldPitches::new, x -> x.tear(), 0);
        Edge.answers("43: 0 the second time", EdgesOfImagesTest::torn, x -> x.tear(), 0);
    }

    private static void tearOnly() {
        for (Lens lens : Lens.values()) {
            boolean isSame = lens.lookAt(torn()).equals(lens.lookAt(Edge.busy()));
            Due.holds("43: nothing of " + lens + " changes but the image", isSame == (lens != Lens.IMAGE));
        }
    }

    private static void count() {
        Edge.range("44: what", Edge::busy, (x, v) -> x.count(v), 0, 7);
        Edge.unchanged("44: count", Edge::busy, x -> x.count(3));
        int[] due = {2, 3, 7, 10 * 34 + 13 - 13 * 69 / 100, 3, 3, 1, 2};
        for (int what = 0; what <= 7; what++) {
            int w = what;
            Edge.answers("44: what " + what, Edge::busy, x -> x.count(w), due[w]);
        }
    }

    private static void countOfNone() {
        for (int what = 0; what <= 7; what++) {
            int w = what;
            Edge.answers("44: at first, what " + what, FieldPitches::new, x -> x.count(w), 0);
        }
    }

    private static void countOfAll() {
        int[] due = {0, 12, 24, 0, 120, 20, 0, 24};
        for (int what = 0; what <= 7; what++) {
            int w = what;
            Edge.answers("44: the most, what " + what, Edge::full, x -> x.count(w), due[w]);
        }
        Edge.answers("44: the last TODAY", () -> Edge.until(Edge.full(), 99), x -> x.count(0), 99);
    }

    private static void countHere() {
        FieldPitches x = Edge.plain(12);
        for (int p = 0; p < 12; p++) {
            Edge.on(x, p, 0, 1);
            Edge.on(x, p, 1, 1);
        }
        Due.due("44: 12 are HERE", x.count(6), 12);
        x.nights(1);
        Due.due("44: 12 others", x.count(6), 12);
        x.nights(1);
        Due.due("44: none", x.count(6), 0);
        Due.due("44: none waits", x.count(7), 0);
    }

    private static void countWaiting() {
        FieldPitches x = Edge.full();
        x.put(0, 0);
        Due.due("44: one is ON a PITCH", x.count(7), 23);
        x.cancel(1);
        Due.due("44: one was CANCELLED", x.count(7), 22);
        x.cancel(0);
        Due.due("44: both were", x.count(7), 22);
        Edge.until(x, 50);
        Due.due("44: they wait still", x.count(7), 22);
    }

    private static void status() {
        FieldPitches x = new FieldPitches();
        for (int which = -1; which <= 6; which++) {
            Due.due("45: at first, which " + which, x.status(which), 0);
        }
        for (int n = 1; n <= 200; n++) {
            x.count(8);
            Due.due("45: all", x.status(-1), n);
        }
        Due.due("45: of BEYOND", x.status(0), 200);
        Edge.unchanged("45: status", Edge::busy, y -> y.status(-1));
    }

    private static void statusBeyond() {
        Edge.range("45: which", Edge::busy, (x, v) -> x.status(v), -1, 6);
        FieldPitches x = new FieldPitches();
        Due.due("45: another one", x.status(7), Due.BEYOND);
        Due.due("45: counted from then on", x.status(-1), 1);
        Due.due("45: another one", x.status(-2), Due.BEYOND);
        Due.due("45: as BEYOND", x.status(0), 2);
        for (int which = 1; which <= 6; which++) {
            Due.due("45: not as " + which, x.status(which), 0);
        }
    }

    /** Answers below 0 that are no findings. */
    private static void statusOfNoFinding() {
        FieldPitches x = Edge.busy();
        int was = x.status(-1);
        x.partyOf(4, 6);
        x.partyOf(5, 6);
        x.near(0, 1);
        x.who(0, 0);
        x.put(4, 0);
        x.wipe();
        x.law(0);
        x.join(0);
        Due.due("45: no acts that answered a finding", x.status(-1), was);
    }

    private static void statusOfEach() {
        FieldPitches x = Edge.full();
        x.count(8);
        x.wash(0, 1);
        x.hold(0, 0);
        x.as(0, 1);
        x.stars(0);
        x.cancel(0);
        x.cancel(0);
        x.join(0);
        x.sheet(0, 8, -1);
        for (int which = 0; which <= 6; which++) {
            Due.due("45: BEYOND to SIZE, which " + which, x.status(which), 1);
        }
        Due.due("45: all", x.status(-1), 7);
    }

    private static void statusAndUndo() {
        FieldPitches x = Edge.busy();
        int was = x.status(-1);
        x.count(8);
        x.image();
        x.count(8);
        x.stars(0);
        x.undo();
        Due.due("45: undo() takes none back", x.status(-1), was + 3);
        x.tear();
        x.undo();
        Due.due("45: its own NONE", x.status(3), 2);
        x.image();
        x.undo();
        Due.due("45: nor does another", x.status(-1), was + 4);
    }
}
