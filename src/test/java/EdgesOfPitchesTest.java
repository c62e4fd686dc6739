/** The boundary cases of promises 1 to 13 and 15, sentence by sentence (those of 14: EdgesOfPlansTest). */
final class EdgesOfPitchesTest {
    private EdgesOfPitchesTest() {
    }

    public static void main(String[] args) {
        newObject();
        newObjects();
        pitch();
        pitchOrder();
        pitchOf();
        shade();
        far();
        party();
        partyOrder();
        partyOf();
        partyOfWaiting();
        partyOfCancelled();
        partyOfPaid();
        why();
        near();
        nearItself();
        nearNobody();
        putBeyond();
        putState();
        putKind();
        putNone();
        putOrder();
        putWhereItWas();
        putOfOneThatCame();
        nights();
        nightsAboveLast();
        nightsOrder();
        who();
        whoIsFree();
        gaps();
        gapsOfAll();
        apart();
        apartTwice();
        Due.end();
    }

    private static void newObject() {
        FieldPitches x = new FieldPitches();
        for (int what = 0; what <= 7; what++) {
            Due.due("1: count(" + what + ") of a new object", x.count(what), 0);
        }
        Due.due("1: no PITCHES", x.gaps(-1), 0);
        Due.due("1: no PARTIES", x.apart(), 0);
        Due.due("1: no TEXTS", x.repeal(0) + x.repeal(1), 0);
        Due.due("1: no WASHERS", x.dry(), 0);
        Due.due("1: THE TAPE is empty", x.wipe(), 0);
        Due.due("1: no finding", x.status(-1), 0);
        for (int spot = 0; spot <= 9; spot++) {
            Due.due("1: SPOTS hold nothing", x.as(spot, 0), Due.MISSING);
        }
        for (int s = 0; s <= 3; s++) {
            Due.due("1: SHEETS are MISSING", x.join(s), Due.MISSING);
        }
        Due.due("1: no image is kept", x.tear(), 0);
        Due.due("1: no image is kept", x.undo(), Due.NONE);
        Edge.refused("1: no PITCH 0", FieldPitches::new, y -> y.pitchOf(0, 0), Due.BEYOND);
        Edge.refused("1: no PARTY 0", FieldPitches::new, y -> y.partyOf(0, 0), Due.BEYOND);
    }

    /** What is done to one object is not done to another. */
    private static void newObjects() {
        FieldPitches other = new FieldPitches();
        Edge.full().image();
        Edge.busy().status(99);
        for (int what = 0; what <= 7; what++) {
            Due.due("1: another object's count(" + what + ")", other.count(what), 0);
        }
        Due.due("1: another object's findings", other.status(-1), 0);
        Due.due("1: another object's LIMIT", other.limit(1, 0), 32);
    }

    private static void pitch() {
        Edge.refused("2: FULL", Edge::full, x -> x.pitch(9999, 3099, 932, 73), Due.FULL);
        Edge.answers("2: the least of all", FieldPitches::new, x -> x.pitch(0, 100, 0, 0), 0);
        Edge.answers("2: the greatest of all", FieldPitches::new, x -> x.pitch(9999, 3099, 932, 73), 0);
        Edge.answers("2: its number", Edge::busy, x -> x.pitch(0, 100, 0, 0), 3);
        Edge.answers("2: the last", () -> Edge.plain(11), x -> x.pitch(0, 100, 0, 0), 11);
    }

    private static void pitchOrder() {
        Edge.refused("2: at, ahead of FULL", Edge::full, x -> x.pitch(10000, 100, 0, 0), Due.BEYOND);
        Edge.refused("2: size, ahead of FULL", Edge::full, x -> x.pitch(0, 99, 0, 0), Due.BEYOND);
        Edge.refused("2: has, ahead of FULL", Edge::full, x -> x.pitch(0, 100, 33, 0), Due.BEYOND);
        Edge.refused("2: flags, ahead of FULL", Edge::full, x -> x.pitch(0, 100, 0, 4), Due.BEYOND);
    }

    private static void pitchOf() {
        Edge.range("3: pitch", Edge::busy, (x, v) -> x.pitchOf(v, 0), 0, 2);
        Edge.range("3: pitch of 12", Edge::full, (x, v) -> x.pitchOf(v, 0), 0, 11);
        Edge.range("3: what", Edge::busy, (x, v) -> x.pitchOf(2, v), 0, 7);
        Edge.unchanged("3: pitchOf", Edge::busy, x -> x.pitchOf(1, 4));
        int[] due = {15, 25, 12, 20, 7, 16, 3, 1};
        for (int what = 0; what <= 7; what++) {
            int w = what;
            Edge.answers("3: what " + what, Edge::busy, x -> x.pitchOf(1, w), due[w]);
        }
    }

    private static void shade() {
        Edge.range("4: pitch", Edge::busy, (x, v) -> x.shade(v, 5), 0, 2);
        Edge.range("4: v", Edge::busy, (x, v) -> x.shade(1, v), 0, 9);
        FieldPitches x = Edge.busy();
        Due.due("4: what it was", x.shade(1, 9), 7);
        Due.due("4: the greatest", x.shade(1, 0), 9);
        Due.due("4: the least", x.shade(1, 3), 0);
        Due.due("4: another PITCH stays", x.pitchOf(0, 4), 2);
        Due.due("4: its AMPS stay", x.pitchOf(1, 5), 16);
        FieldPitches y = Edge.plain(1);
        y.party(1, 100, 0, 501);
        y.put(0, 0);
        y.shade(0, 9);
        Due.due("4: who is ON it stays", y.partyOf(0, 6), 0);
    }

    private static void far() {
        Edge.range("5: a", Edge::busy, (x, v) -> x.far(v, 0), 0, 2);
        Edge.range("5: b", Edge::busy, (x, v) -> x.far(0, v), 0, 2);
        Edge.refused("5: one and itself that isn't there", Edge::busy, x -> x.far(3, 3), Due.BEYOND);
        for (int p = 0; p <= 2; p++) {
            int pitch = p;
            Edge.answers("5: of one and itself 0", Edge::busy, x -> x.far(pitch, pitch), 0);
        }
        Edge.unchanged("5: far", Edge::busy, x -> x.far(0, 2));
    }

    private static void party() {
        Edge.refused("6: FULL", Edge::full, x -> x.party(4, 3032, 7, 7030), Due.FULL);
        Edge.answers("6: the least of all", FieldPitches::new, x -> x.party(0, 100, 0, 1), 0);
        Edge.answers("6: the greatest of all", FieldPitches::new, x -> x.party(4, 3032, 7, 9901), 0);
        Edge.answers("6: its number", Edge::busy, x -> x.party(0, 100, 0, 201), 7);
    }

    private static void partyOrder() {
        Edge.refused("6: kind, ahead of FULL", Edge::full, x -> x.party(5, 100, 0, 501), Due.BEYOND);
        Edge.refused("6: size, ahead of FULL", Edge::full, x -> x.party(0, 133, 0, 501), Due.BEYOND);
        Edge.refused("6: wishes, ahead of FULL", Edge::full, x -> x.party(0, 100, 8, 501), Due.BEYOND);
        Edge.refused("6: stay, ahead of FULL", Edge::full, x -> x.party(0, 100, 0, 9902), Due.BEYOND);
        Edge.refused("6: yesterday, ahead of FULL", () -> Edge.until(Edge.full(), 6), x -> x.party(0, 100, 0, 501), Due.BEYOND);
    }

    private static void partyOf() {
        Edge.range("7: party", Edge::busy, (x, v) -> x.partyOf(v, 0), 0, 6);
        Edge.range("7: party of 24", Edge::full, (x, v) -> x.partyOf(v, 0), 0, 23);
        Edge.range("7: what", Edge::busy, (x, v) -> x.partyOf(2, v), 0, 9);
        Edge.unchanged("7: partyOf", Edge::busy, x -> x.partyOf(2, 6));
        int[] due = {2, 9, 10, 4, 9, 4, 0, -1, -1, 0};
        for (int what = 0; what <= 9; what++) {
            int w = what;
            Edge.answers("7: what " + what, Edge::busy, x -> x.partyOf(2, w), due[w]);
        }
    }

    private static void partyOfWaiting() {
        Edge.answers("7: -1: it waits", Edge::busy, x -> x.partyOf(4, 6), -1);
        Edge.answers("7: whom it would be NEAR", Edge::busy, x -> x.partyOf(3, 7), 1);
        Edge.answers("7: PARTY 0, too", FieldPitches::new, x -> nearFirst(x), 0);
        Edge.answers("7: -1: nobody", Edge::busy, x -> x.partyOf(0, 7), -1);
        Edge.answers("7: PITCH 0 is none of these", Edge::busy, x -> x.partyOf(1, 6), 0);
    }

    private static int nearFirst(FieldPitches x) {
        x.party(0, 100, 0, 1);
        x.party(0, 100, 0, 1);
        x.near(1, 0);
        return x.partyOf(1, 7);
    }

    private static void partyOfCancelled() {
        Edge.answers("7: -2: it was CANCELLED", Edge::busy, x -> x.partyOf(5, 6), -2);
        Edge.answers("7: PAID, also if it was CANCELLED", Edge::busy, x -> x.partyOf(5, 8), 13);
        FieldPitches x = Edge.plain(1);
        x.party(0, 100, 0, 501);
        x.cancel(0);
        Due.due("7: CANCELLED, not PAID yet", x.partyOf(0, 8), -1);
        Due.due("7: CANCELLED, not COME", x.partyOf(0, 9), 0);
    }

    private static void partyOfPaid() {
        FieldPitches x = Edge.plain(1);
        x.party(0, 100, 0, 501);
        Due.due("7: -1: not yet", x.partyOf(0, 8), -1);
        Due.tell(x, 0, "0");
        x.pay(0);
        Due.due("7: PAID 0", x.partyOf(0, 8), 0);
    }

    private static void why() {
        Edge.range("8: party", Edge::busy, (x, v) -> x.why(v, 0), 0, 6);
        Edge.range("8: pitch", Edge::busy, (x, v) -> x.why(0, v), 0, 2);
        Edge.unchanged("8: why", Edge::busy, x -> x.why(2, 2));
        Edge.answers("8: a reason is no finding", Edge::busy, x -> x.why(2, 2), 1);
        Edge.answers("8: 0: it FITS", Edge::busy, x -> x.why(2, 0), 0);
        Edge.answers("8: also one that was CANCELLED", Edge::busy, x -> x.why(5, 0), 0);
        Edge.answers("8: also if the PITCH isn't FREE", Edge::busy, x -> x.why(4, 0), 0);
    }

    private static void near() {
        Edge.range("9: party", Edge::busy, (x, v) -> x.near(v, -1), 0, 6);
        Edge.range("9: other", Edge::busy, (x, v) -> x.near(2, v), -1, 6);
        Edge.answers("9: whom it did", Edge::busy, x -> x.near(1, 0), 3);
        Edge.answers("9: the same again", Edge::busy, x -> x.near(1, 3), 3);
    }

    private static void nearItself() {
        for (int p = 0; p <= 6; p++) {
            int party = p;
            Edge.refused("9: BEYOND, also itself", Edge::busy, x -> x.near(party, party), Due.BEYOND);
        }
    }

    private static void nearNobody() {
        Edge.answers("9: -1: nobody", Edge::busy, x -> x.near(0, 1), -1);
        FieldPitches x = Edge.busy();
        Due.due("9: nobody any more", x.near(1, -1), 3);
        Due.due("9: nobody", x.near(1, -1), -1);
        Due.due("9: the other still wishes", x.partyOf(3, 7), 1);
    }

    private static void putBeyond() {
        Edge.range("10: pitch", () -> crowd(3, 1), (x, v) -> x.put(0, v), 0, 2);
        Edge.range("10: party", () -> crowd(1, 7), (x, v) -> x.put(v, 0), 0, 6);
        Edge.refused("10: no PITCHES", () -> crowd(0, 1), x -> x.put(0, 0), Due.BEYOND);
        Edge.refused("10: no PARTIES", () -> crowd(1, 0), x -> x.put(0, 0), Due.BEYOND);
    }

    /** PARTIES of one NIGHT each, all in the same one. */
    private static FieldPitches crowd(int pitches, int parties) {
        FieldPitches x = Edge.plain(pitches);
        for (int p = 0; p < parties; p++) {
            x.party(0, 100, 0, 501);
        }
        return x;
    }

    private static FieldPitches on(int today) {
        FieldPitches x = crowd(2, 1);
        x.put(0, 0);
        return Edge.until(x, today);
    }

    private static void putState() {
        Edge.refused("10: it was CANCELLED", Edge::busy, x -> x.put(5, 0), Due.STATE);
        Edge.refused("10: it is ON one and has COME", Edge::busy, x -> x.put(3, 0), Due.STATE);
        Edge.answers("10: ON one, the NIGHT ahead of its first", () -> on(4), x -> x.put(0, 1), 0);
        Edge.refused("10: ON one, in its first NIGHT", () -> on(5), x -> x.put(0, 1), Due.STATE);
        Edge.refused("10: ON one, its last NIGHT went", () -> on(6), x -> x.put(0, 1), Due.STATE);
        Edge.refused("10: onto its own PITCH", () -> on(5), x -> x.put(0, 0), Due.STATE);
    }

    private static void putKind() {
        Edge.refused("10: it doesn't FIT", Edge::busy, x -> x.put(2, 2), Due.KIND);
        Edge.refused("10: nor where SHADE is above 6", Edge::busy, x -> x.put(1, 1), Due.KIND);
        FieldPitches y = crowd(1, 0);
        y.party(1, 100, 0, 501);
        y.put(0, 0);
        y.shade(0, 7);
        Due.due("10: nor where it is, any more", y.put(0, 0), Due.KIND);
        Due.due("10: it stays there", y.partyOf(0, 6), 0);
    }

    private static void putNone() {
        Edge.refused("10: it isn't FREE", () -> taken(10, 3), x -> x.put(1, 0), Due.NONE);
        Edge.refused("10: not in its first NIGHT", () -> taken(12, 5), x -> x.put(1, 0), Due.NONE);
        Edge.refused("10: not in its last NIGHT", () -> taken(5, 6), x -> x.put(1, 0), Due.NONE);
        Edge.refused("10: not in one between", () -> taken(5, 20), x -> x.put(1, 0), Due.NONE);
        Edge.answers("10: FREE up to the NIGHT ahead", () -> taken(5, 5), x -> x.put(1, 0), -1);
        Edge.answers("10: FREE from the NIGHT behind on", () -> taken(13, 5), x -> x.put(1, 0), -1);
    }

    /** PITCH 0 is taken in NIGHTS 10 to 12; PARTY 1 waits. */
    private static FieldPitches taken(int first, int nights) {
        FieldPitches x = Edge.plain(1);
        Edge.on(x, 0, 10, 3);
        x.party(0, 100, 0, 100 * first + nights);
        return x;
    }

    private static void putOrder() {
        Edge.refused("10: BEYOND ahead of STATE", Edge::busy, x -> x.put(5, 3), Due.BEYOND);
        Edge.refused("10: BEYOND ahead of STATE", Edge::busy, x -> x.put(3, -1), Due.BEYOND);
        Edge.refused("10: BEYOND, both", Edge::busy, x -> x.put(7, 3), Due.BEYOND);
        Edge.refused("10: STATE ahead of KIND, CANCELLED", Edge::busy, x -> x.put(5, 2), Due.STATE);
        Edge.refused("10: STATE ahead of KIND, COME", Edge::busy, x -> x.put(3, 2), Due.STATE);
        Edge.refused("10: STATE ahead of NONE", EdgesOfPitchesTest::cancelledBeside, x -> x.put(1, 0), Due.STATE);
        Edge.refused("10: KIND ahead of NONE", EdgesOfPitchesTest::longBeside, x -> x.put(1, 0), Due.KIND);
    }

    private static FieldPitches cancelledBeside() {
        FieldPitches x = taken(10, 3);
        x.cancel(1);
        return x;
    }

    private static FieldPitches longBeside() {
        FieldPitches x = new FieldPitches();
        x.pitch(0, 1000, 0, 0);
        Edge.on(x, 0, 10, 3);
        x.party(0, 1100, 0, 1003);
        return x;
    }

    private static void putWhereItWas() {
        FieldPitches x = crowd(2, 1);
        Due.due("10: -1: it waited", x.put(0, 0), -1);
        Due.due("10: where it was, PITCH 0", x.put(0, 1), 0);
        Due.due("10: where it was, PITCH 1", x.put(0, 1), 1);
        Due.due("10: it left PITCH 0", x.who(0, 5), -1);
        Due.due("10: it is ON PITCH 1", x.who(1, 5), 0);
        FieldPitches y = Edge.plain(1);
        y.party(0, 100, 0, 1030);
        y.put(0, 0);
        Due.due("10: FREE but for itself", y.put(0, 0), 0);
    }

    private static void putOfOneThatCame() {
        Edge.answers("10: it waits, its first NIGHT is TODAY", () -> Edge.until(crowd(1, 1), 5), x -> x.put(0, 0), -1);
        Edge.refused("10: it waits and has COME, but none is FREE", Edge::busy, x -> x.put(6, 2), Due.NONE);
        Edge.answers("10: it waits, its last NIGHT went", () -> Edge.until(crowd(1, 1), 90), x -> x.put(0, 0), -1);
    }

    private static void nights() {
        Edge.range("11: n", FieldPitches::new, (x, v) -> x.nights(v), 1, 50);
        Edge.answers("11: the least", FieldPitches::new, x -> x.nights(1), 1);
        Edge.answers("11: the most", FieldPitches::new, x -> x.nights(50), 50);
        Edge.answers("11: TODAY", Edge::busy, x -> x.nights(3), 5);
    }

    private static void nightsAboveLast() {
        Edge.answers("11: to 99", () -> Edge.until(Edge.plain(1), 49), x -> x.nights(50), 99);
        Edge.refused("11: to 100", () -> Edge.until(Edge.plain(1), 50), x -> x.nights(50), Due.STATE);
        Edge.answers("11: to 99 by 1", () -> Edge.until(Edge.plain(1), 98), x -> x.nights(1), 99);
        Edge.refused("11: to 100 by 1", () -> Edge.until(Edge.plain(1), 99), x -> x.nights(1), Due.STATE);
        Edge.refused("11: to 149", () -> Edge.until(Edge.plain(1), 99), x -> x.nights(50), Due.STATE);
    }

    private static void nightsOrder() {
        Edge.refused("11: BEYOND ahead of STATE, 51", () -> Edge.until(Edge.plain(1), 99), x -> x.nights(51), Due.BEYOND);
        Edge.refused("11: BEYOND at 99, 0", () -> Edge.until(Edge.plain(1), 99), x -> x.nights(0), Due.BEYOND);
        Edge.refused("11: an int that would wrap", () -> Edge.until(Edge.plain(1), 99),
                x -> x.nights(Integer.MAX_VALUE), Due.BEYOND);
    }

    private static void who() {
        Edge.range("12: pitch", Edge::busy, (x, v) -> x.who(v, 0), 0, 2);
        Edge.range("12: night", Edge::busy, (x, v) -> x.who(2, v), 0, 99);
        Edge.unchanged("12: who", Edge::busy, x -> x.who(0, 5));
    }

    private static void whoIsFree() {
        int[] nights = {2, 3, 7, 8, 9, 12, 13};
        int[] due = {-1, 1, 1, -1, 2, 2, -1};
        for (int i = 0; i < nights.length; i++) {
            int night = nights[i];
            Edge.answers("12: who is ON 0 in " + night, Edge::busy, x -> x.who(0, night), due[i]);
        }
        Edge.answers("12: in a NIGHT that went", Edge::busy, x -> x.who(2, 0), 0);
        Edge.answers("12: PARTY 3 is HERE", Edge::busy, x -> x.who(1, 2), 3);
        Edge.answers("12: it was CANCELLED", Edge::busy, x -> x.who(0, 30), -1);
    }

    private static void gaps() {
        Edge.range("13: pitch", Edge::busy, (x, v) -> x.gaps(v), -1, 2);
        Edge.unchanged("13: gaps", Edge::busy, x -> x.gaps(-1));
        Edge.answers("13: NIGHT 8", Edge::busy, x -> x.gaps(0), 1);
        Edge.answers("13: none", Edge::busy, x -> x.gaps(1), 0);
        Edge.refused("13: no PITCHES", FieldPitches::new, x -> x.gaps(0), Due.BEYOND);
    }

    private static void gapsOfAll() {
        Edge.answers("13: -1: of all", Edge::busy, x -> x.gaps(-1), 1);
        Edge.answers("13: of none", FieldPitches::new, x -> x.gaps(-1), 0);
        FieldPitches x = Edge.plain(12);
        for (int p = 0; p < 12; p++) {
            Edge.on(x, p, 0, 1);
            Edge.on(x, p, 2, 1);
        }
        Due.due("13: of all 12", x.gaps(-1), 12);
        Due.due("13: of the last", x.gaps(11), 1);
    }

    private static void apart() {
        Edge.answers("15: without PARTIES", FieldPitches::new, x -> x.apart(), 0);
        Edge.unchanged("15: apart", Edge::busy, x -> x.apart());
        FieldPitches x = crowd(3, 3);
        x.near(0, 1);
        Due.due("15: both wait", x.apart(), 0);
        x.put(0, 0);
        Due.due("15: the other waits", x.apart(), 0);
        x.put(1, 2);
        Due.due("15: both ON PITCHES", x.apart(), 2);
        x.near(0, 2);
        x.near(2, 1);
        Due.due("15: one that waits wishes", x.apart(), 0);
        x.near(0, 1);
        x.cancel(1);
        Due.due("15: the other was CANCELLED", x.apart(), 0);
    }

    private static void apartTwice() {
        FieldPitches x = new FieldPitches();
        x.pitch(0, 3000, 0, 0);
        x.pitch(9999, 3000, 0, 0);
        for (int p = 0; p < 24; p++) {
            x.party(0, 100, 0, 100 * p + 1);
            x.put(p, p % 2);
        }
        for (int p = 0; p < 24; p++) {
            x.near(p, p % 2 == 0 ? p + 1 : p - 1);
        }
        Due.due("15: two that wish for each other: twice", x.apart(), 24 * 198);
        x.near(0, 2);
        Due.due("15: on one PITCH: 0", x.apart(), 23 * 198);
    }
}
