/** The boundary cases of the Terms, 3: plans, sentence by sentence; with them those of promise 14. */
final class EdgesOfPlansTest {
    private EdgesOfPlansTest() {
    }

    public static void main(String[] args) {
        othersThanParties();
        none();
        moreThanFour();
        upToFour();
        cancelled();
        come();
        beyondAheadOfState();
        noPitches();
        fits();
        fitsNoMore();
        othersStay();
        membersLeave();
        noTwoInOneNight();
        mostAheadOfGaps();
        fewestGaps();
        gapsOfAllPitches();
        gapsAtTheEnds();
        gapsAheadOfFar();
        leastFar();
        farOfOthers();
        farOfThoseThatWait();
        farTwice();
        farOfMembers();
        farOfMembersThatWished();
        farOfMembersTwice();
        farOfMembersOnce();
        oldPlacesDontCount();
        filledLater();
        filledTwice();
        filledOnFirstPitch();
        mostFoundLater();
        lateNights();
        leastPitches();
        waitingIsLast();
        firstByParties();
        greatest();
        again();
        Due.end();
    }

    /** PARTIES of one NIGHT each, all in the same one. */
    private static FieldPitches crowd(int pitches, int parties) {
        FieldPitches x = Edge.plain(pitches);
        for (int p = 0; p < parties; p++) {
            x.party(0, 100, 0, 501);
        }
        return x;
    }

    private static void places(String what, FieldPitches x, int from, int... pitches) {
        for (int i = 0; i < pitches.length; i++) {
            Due.due("3: " + what + ", PARTY " + (from + i), x.partyOf(from + i, 6), pitches[i]);
        }
    }

    private static void othersThanParties() {
        Edge.answers("14: the last PARTY", () -> crowd(2, 5), x -> x.plan(16), 1);
        Edge.refused("14: the one behind it", () -> crowd(2, 5), x -> x.plan(32), Due.BEYOND);
        Edge.refused("14: among PARTIES", () -> crowd(2, 5), x -> x.plan(33), Due.BEYOND);
        Edge.refused("14: the highest bit", () -> crowd(2, 5), x -> x.plan(Integer.MIN_VALUE), Due.BEYOND);
        Edge.refused("14: the highest bit among PARTIES", () -> crowd(2, 5), x -> x.plan(Integer.MIN_VALUE + 1), Due.BEYOND);
        Edge.refused("14: all bits", () -> crowd(2, 5), x -> x.plan(-1), Due.BEYOND);
        Edge.refused("14: without PARTIES", FieldPitches::new, x -> x.plan(1), Due.BEYOND);
        Edge.answers("14: the 24th PARTY", Edge::full, x -> x.plan(1 << 23), 1);
        for (int bit = 24; bit <= 31; bit++) {
            int set = 1 << bit;
            Edge.refused("14: bit " + bit, Edge::full, x -> x.plan(set), Due.BEYOND);
        }
    }

    private static void none() {
        Edge.refused("14: none", () -> crowd(2, 5), x -> x.plan(0), Due.BEYOND);
        Edge.refused("14: none of none", FieldPitches::new, x -> x.plan(0), Due.BEYOND);
    }

    private static void moreThanFour() {
        Edge.refused("14: 5", () -> crowd(12, 5), x -> x.plan(31), Due.BEYOND);
        Edge.refused("14: 24", Edge::full, x -> x.plan(0xFFFFFF), Due.BEYOND);
        Edge.refused("14: 5, the highest ones", Edge::full, x -> x.plan(0xF80000), Due.BEYOND);
    }

    private static void upToFour() {
        Edge.answers("14: 1", () -> crowd(12, 5), x -> x.plan(1), 1);
        Edge.answers("14: 4", () -> crowd(12, 5), x -> x.plan(30), 4);
        Edge.answers("14: 4, the highest ones", Edge::full, x -> x.plan(0xF00000), 4);
    }

    private static void cancelled() {
        Edge.refused("14: one was CANCELLED", Edge::busy, x -> x.plan(1 << 5), Due.STATE);
        Edge.refused("14: the last of some was CANCELLED", Edge::busy, x -> x.plan(1 << 1 | 1 << 2 | 1 << 5), Due.STATE);
    }

    private static void come() {
        Edge.refused("14: one is ON and has COME", Edge::busy, x -> x.plan(1 << 3), Due.STATE);
        Edge.refused("14: one waits and has COME", Edge::busy, x -> x.plan(1 << 6), Due.STATE);
        Edge.refused("14: one has COME and gone", Edge::busy, x -> x.plan(1), Due.STATE);
        Edge.refused("14: the first of some has COME", Edge::busy, x -> x.plan(1 | 1 << 1 | 1 << 4), Due.STATE);
        Edge.answers("14: the NIGHT ahead of its first", () -> Edge.until(crowd(1, 1), 4), x -> x.plan(1), 1);
        Edge.refused("14: its first NIGHT is TODAY", () -> Edge.until(crowd(1, 1), 5), x -> x.plan(1), Due.STATE);
        Edge.refused("14: its first NIGHT was yesterday", () -> Edge.until(crowd(1, 1), 6), x -> x.plan(1), Due.STATE);
    }

    private static void beyondAheadOfState() {
        Edge.refused("14: CANCELLED and no PARTY", Edge::busy, x -> x.plan(1 << 5 | 1 << 7), Due.BEYOND);
        Edge.refused("14: COME and 5", Edge::busy, x -> x.plan(31), Due.BEYOND);
    }

    private static void noPitches() {
        Edge.answers("3: no PITCHES", () -> crowd(0, 4), x -> x.plan(15), 0);
        FieldPitches x = crowd(0, 4);
        x.plan(15);
        places("no PITCHES", x, 0, -1, -1, -1, -1);
    }

    private static void fits() {
        FieldPitches x = new FieldPitches();
        x.pitch(0, 900, 0, 70);
        x.pitch(0, 1000, 700, 70);
        x.pitch(0, 1000, 600, 70);
        x.party(1, 1000, 0, 501);
        x.party(1, 1100, 0, 501);
        Due.due("3: one FITS none", x.plan(3), 1);
        places("a PITCH that it FITS", x, 0, 2, -1);
    }

    private static void fitsNoMore() {
        FieldPitches x = Edge.plain(1);
        x.party(1, 100, 0, 501);
        Due.due("3: it FITS with SHADE 0", x.plan(1), 1);
        x.shade(0, 7);
        Due.due("3: it doesn't with SHADE 7", x.plan(1), 0);
        places("it has to wait", x, 0, -1);
        x.shade(0, 6);
        Due.due("3: it does with SHADE 6", x.plan(1), 1);
    }

    private static void othersStay() {
        FieldPitches x = crowd(2, 4);
        x.put(0, 0);
        x.put(1, 1);
        Due.due("3: all others stay as they are", x.plan(12), 0);
        places("others stay", x, 0, 0, 1, -1, -1);
        x.cancel(0);
        Due.due("3: those that wait, too", x.plan(8), 1);
        places("others wait", x, 0, -2, 1, -1, 0);
    }

    private static void membersLeave() {
        FieldPitches x = crowd(3, 2);
        x.put(0, 2);
        x.put(1, 0);
        Due.due("3: members leave their PITCHES", x.plan(3), 2);
        places("the first way", x, 0, 0, 1);
        FieldPitches y = Edge.plain(1);
        y.party(0, 100, 0, 505);
        y.put(0, 0);
        y.party(0, 100, 0, 501);
        y.party(0, 100, 0, 901);
        Due.due("3: a member waits again", y.plan(7), 2);
        places("for two others", y, 0, -1, 0, 0);
    }

    private static void noTwoInOneNight() {
        FieldPitches x = Edge.plain(1);
        x.party(0, 100, 0, 503);
        x.party(0, 100, 0, 701);
        Due.due("3: they meet in NIGHT 7", x.plan(3), 1);
        FieldPitches y = Edge.plain(1);
        y.party(0, 100, 0, 503);
        y.party(0, 100, 0, 801);
        Due.due("3: they don't meet", y.plan(3), 2);
        FieldPitches z = Edge.plain(1);
        Edge.on(z, 0, 99, 1);
        z.party(0, 100, 0, 7030);
        z.party(0, 100, 0, 7029);
        Due.due("3: it meets another in NIGHT 99", z.plan(2), 0);
        Due.due("3: it doesn't", z.plan(4), 1);
    }

    private static void mostAheadOfGaps() {
        FieldPitches x = Edge.plain(1);
        Edge.on(x, 0, 5, 1);
        x.party(0, 100, 0, 301);
        x.party(0, 100, 0, 701);
        Due.due("3: the most, with GAPS", x.plan(6), 2);
        Due.due("3: GAPS", x.gaps(-1), 2);
    }

    private static void fewestGaps() {
        FieldPitches x = Edge.plain(3);
        Edge.on(x, 0, 5, 1);
        Edge.on(x, 1, 9, 1);
        x.party(0, 100, 0, 701);
        Due.due("3: on 0 and 1 it would leave a GAP", x.plan(4), 1);
        places("no GAP", x, 2, 2);
        FieldPitches y = Edge.plain(3);
        Edge.on(y, 2, 5, 1);
        Edge.on(y, 2, 7, 1);
        y.party(0, 100, 0, 601);
        Due.due("3: a GAP that is filled", y.plan(4), 1);
        places("a GAP less", y, 2, 2);
        FieldPitches z = Edge.plain(2);
        Edge.on(z, 0, 3, 1);
        Edge.on(z, 0, 9, 1);
        Edge.on(z, 1, 3, 1);
        z.party(0, 100, 0, 503);
        Due.due("3: two GAPS on 0, one on 1", z.plan(8), 1);
        places("one GAP", z, 3, 1);
    }

    private static void gapsOfAllPitches() {
        FieldPitches x = Edge.plain(2);
        Edge.on(x, 0, 5, 1);
        Edge.on(x, 1, 3, 2);
        x.party(0, 100, 0, 701);
        x.party(0, 100, 0, 601);
        // alone, the first would go to 1 (nights 5 and 6 are free there); the second fills its GAP on 0
        Due.due("3: alone", x.plan(4), 1);
        places("alone", x, 2, 1);
        Due.due("3: together", x.plan(12), 2);
        places("together", x, 2, 0, 0);
        Due.due("3: no GAP", x.gaps(-1), 0);
    }

    private static void gapsAtTheEnds() {
        FieldPitches x = Edge.plain(2);
        Edge.on(x, 0, 96, 1);
        x.party(0, 100, 0, 9801);
        Due.due("3: NIGHT 97 would be a GAP", x.plan(2), 1);
        places("not on 0", x, 1, 1);
        FieldPitches y = Edge.plain(2);
        y.party(0, 100, 0, 101);
        y.party(0, 100, 0, 9801);
        Due.due("3: NIGHTS 0 and 99 are none", y.plan(3), 2);
        places("both on 0", y, 0, 0, 0);
    }

    private static void gapsAheadOfFar() {
        FieldPitches x = Edge.plain(12);
        Edge.on(x, 0, 7, 1);
        Edge.on(x, 1, 5, 1);
        x.party(0, 100, 0, 701);
        x.near(2, 0);
        Due.due("3: the nearest PITCH would have a GAP", x.plan(4), 1);
        places("the next one", x, 2, 2);
    }

    private static void leastFar() {
        FieldPitches x = new FieldPitches();
        x.pitch(5050, 3000, 32, 70);
        x.pitch(0, 3000, 32, 70);
        x.pitch(9999, 3000, 32, 70);
        x.pitch(5149, 3000, 32, 70);
        x.pitch(5051, 3000, 32, 70);
        Edge.on(x, 0, 5, 1);
        x.party(0, 100, 0, 501);
        x.near(1, 0);
        Due.due("3: FAR along x and y together", x.plan(2), 1);
        places("1, not 2", x, 1, 4);
        x.near(1, -1);
        Due.due("3: it wishes to be NEAR nobody", x.plan(2), 1);
        places("the first", x, 1, 1);
    }

    private static void farOfOthers() {
        FieldPitches x = crowd(12, 3);
        x.put(0, 11);
        x.near(0, 1);
        Due.due("3: another one wishes to be NEAR it", x.plan(2), 1);
        places("beside it", x, 0, 11, 10, -1);
        x.near(2, 0);
        Due.due("3: both", x.plan(6), 2);
        places("beside it", x, 0, 11, 9, 10);
        Due.due("3: FAR together", x.apart(), 3);
    }

    private static void farOfThoseThatWait() {
        FieldPitches x = crowd(12, 3);
        x.near(0, 1);
        x.near(1, 0);
        Due.due("3: the other one waits", x.plan(1), 1);
        places("the first PITCH", x, 0, 0);
        x.put(2, 11);
        x.near(0, 2);
        x.cancel(2);
        Due.due("3: the other one was CANCELLED", x.plan(1), 1);
        places("the first PITCH", x, 0, 0);
    }

    private static void farTwice() {
        FieldPitches x = crowd(12, 3);
        x.put(0, 0);
        x.put(1, 11);
        x.near(0, 2);
        x.near(2, 1);
        Due.due("3: once each: any is as near", x.plan(4), 1);
        places("the first", x, 2, 1);
        x.near(1, 2);
        Due.due("3: two that wish for each other: twice", x.plan(4), 1);
        places("the nearest to that", x, 2, 10);
    }

    /** PITCHES at these places along x. */
    private static FieldPitches along(int... places) {
        FieldPitches x = new FieldPitches();
        for (int place : places) {
            x.pitch(100 * place, 3000, 32, 70);
        }
        return x;
    }

    private static void members(FieldPitches x, int parties) {
        for (int p = 0; p < parties; p++) {
            x.party(0, 100, 0, 501);
        }
    }

    private static void farOfMembers() {
        FieldPitches x = along(0, 50, 51);
        members(x, 2);
        Due.due("3: nobody wishes", x.plan(3), 2);
        places("the first", x, 0, 0, 1);
        x.near(0, 1);
        Due.due("3: the first wishes to be NEAR the second", x.plan(3), 2);
        places("the nearest", x, 0, 1, 2);
        x.near(0, -1);
        x.near(1, 0);
        Due.due("3: the second wishes to be NEAR the first", x.plan(3), 2);
        places("the nearest", x, 0, 1, 2);
    }

    private static void farOfMembersThatWished() {
        FieldPitches x = along(0, 50, 90, 51, 91, 20);
        members(x, 4);
        x.near(3, 1);
        Due.due("3: the last wishes to be NEAR the second", x.plan(15), 4);
        places("those two side by side", x, 0, 0, 1, 2, 3);
        x.near(3, 0);
        Due.due("3: the last wishes to be NEAR the first", x.plan(15), 4);
        places("those two side by side", x, 0, 1, 0, 2, 3);
    }

    private static void farOfMembersTwice() {
        FieldPitches x = along(0, 10, 14, 20);
        members(x, 3);
        x.put(2, 0);
        x.near(2, 0);
        x.near(0, 1);
        x.near(1, 0);
        // the third stays on 0: 10 + 2 * 4 on 1 and 2, 14 + 2 * 4 on 2 and 1, 14 + 2 * 6 on 2 and 3
        Due.due("3: twice to each other, once to another", x.plan(3), 2);
        places("the least together", x, 0, 1, 2);
        FieldPitches y = along(0, 10, 19, 21);
        members(y, 3);
        y.put(2, 0);
        y.near(2, 0);
        y.near(0, 1);
        y.near(1, 0);
        // 10 + 2 * 9 on 1 and 2, 19 + 2 * 2 on 2 and 3
        Due.due("3: twice counts more", y.plan(3), 2);
        places("the least together", y, 0, 2, 3);
    }

    private static void farOfMembersOnce() {
        FieldPitches x = along(0, 10, 19, 21);
        members(x, 3);
        x.put(2, 0);
        x.near(2, 0);
        x.near(0, 1);
        // 10 + 9 on 1 and 2, 19 + 2 on 2 and 3
        Due.due("3: once counts less", x.plan(3), 2);
        places("the least together", x, 0, 1, 2);
        FieldPitches y = along(0, 10);
        members(y, 3);
        y.near(0, 2);
        y.near(2, 0);
        Due.due("3: one of three has to wait", y.plan(7), 2);
        places("the one that brings no FAR", y, 0, 0, 1, -1);
        FieldPitches z = along(0, 50, 51);
        z.party(0, 100, 0, 501);
        z.party(0, 100, 0, 501);
        z.party(0, 100, 0, 501);
        z.put(2, 1);
        z.near(0, 1);
        z.near(1, 2);
        z.near(2, 0);
        // the third stays on 1: 51 + 1 + 50 either way
        Due.due("3: all in a ring", z.plan(3), 2);
        places("the first", z, 0, 0, 2);
    }

    private static void oldPlacesDontCount() {
        FieldPitches x = Edge.plain(12);
        members(x, 2);
        x.near(0, 1);
        x.near(1, 0);
        x.put(0, 10);
        x.put(1, 11);
        Due.due("3: where members were doesn't count", x.plan(3), 2);
        places("the first", x, 0, 0, 1);
        FieldPitches y = Edge.plain(12);
        y.party(0, 100, 0, 501);
        y.party(0, 100, 0, 501);
        y.near(0, 1);
        y.put(1, 11);
        Due.due("3: nor for one that waited", y.plan(3), 2);
        places("the first", y, 0, 0, 1);
    }

    /** The first makes a GAP that the second fills, behind ways without one that were FARther. */
    private static void filledLater() {
        FieldPitches x = Edge.plain(2);
        Edge.on(x, 1, 5, 1);
        x.party(0, 100, 0, 701);
        x.party(0, 100, 0, 601);
        x.near(1, 0);
        x.near(2, 0);
        Due.due("3: both beside it", x.plan(6), 2);
        places("no GAP, no FAR", x, 1, 1, 1);
        FieldPitches y = Edge.plain(2);
        Edge.on(y, 1, 5, 1);
        y.party(0, 100, 0, 701);
        y.party(0, 100, 0, 602);
        y.near(1, 0);
        y.near(2, 0);
        Due.due("3: the second stays two NIGHTS", y.plan(6), 2);
        places("it fills nothing", y, 1, 0, 1);
    }

    /** The first makes two GAPS, the others fill them. */
    private static void filledTwice() {
        FieldPitches x = Edge.plain(2);
        Edge.on(x, 1, 5, 1);
        Edge.on(x, 1, 9, 1);
        x.party(0, 100, 0, 701);
        x.party(0, 100, 0, 601);
        x.party(0, 100, 0, 801);
        for (int p = 2; p <= 4; p++) {
            x.near(p, 0);
        }
        Due.due("3: all beside it", x.plan(28), 3);
        places("no GAPS, no FAR", x, 2, 1, 1, 1);
        Due.due("3: no GAPS", x.gaps(-1), 0);
    }

    /** The second and the third FIT PITCH 0 alone; the first one's last way is the best. */
    private static void filledOnFirstPitch() {
        FieldPitches x = new FieldPitches();
        x.pitch(0, 1000, 32, 70);
        x.pitch(5000, 3000, 32, 30);
        x.pitch(9000, 3000, 32, 30);
        Edge.on(x, 0, 5, 1);
        Edge.on(x, 2, 50, 1);
        x.party(0, 2000, 0, 2001);
        x.party(2, 100, 4, 701);
        x.party(2, 100, 4, 601);
        x.near(2, 1);
        Due.due("3: all three", x.plan(28), 3);
        places("the least FAR", x, 2, 2, 0, 0);
    }

    /** The first way has 2; that in which the first one waits has 3. */
    private static void mostFoundLater() {
        FieldPitches x = new FieldPitches();
        x.pitch(0, 3000, 32, 70);
        x.pitch(0, 500, 32, 70);
        x.party(0, 1000, 0, 505);
        x.party(0, 1000, 0, 501);
        x.party(0, 1000, 0, 701);
        x.party(0, 500, 0, 901);
        Due.due("3: the most of them", x.plan(15), 3);
        places("the first one waits", x, 0, -1, 0, 0, 1);
        Due.due("3: and once more", x.plan(15), 3);
        places("the same", x, 0, -1, 0, 0, 1);
    }

    /** All ways are tried anew in late NIGHTS too. */
    private static void lateNights() {
        for (int first : new int[] {1, 30, 62, 63, 64, 65, 97}) {
            FieldPitches x = new FieldPitches();
            x.pitch(0, 3000, 32, 70);
            x.pitch(5000, 500, 32, 70);
            x.pitch(5100, 3000, 32, 70);
            x.party(0, 500, 0, 100 * first + 3);
            x.party(0, 1000, 0, 100 * first + 2);
            x.near(0, 1);
            Due.due("3: from NIGHT " + first + " on", x.plan(3), 2);
            places("side by side from " + first + " on", x, 0, 1, 2);
        }
    }

    private static void leastPitches() {
        FieldPitches x = crowd(12, 4);
        Due.due("3: each the least PITCH", x.plan(15), 4);
        places("by PARTIES", x, 0, 0, 1, 2, 3);
    }

    private static void waitingIsLast() {
        FieldPitches x = crowd(3, 4);
        Due.due("3: one has to wait", x.plan(15), 3);
        places("the last", x, 0, 0, 1, 2, -1);
        FieldPitches y = crowd(1, 4);
        Due.due("3: three have to", y.plan(15), 1);
        places("the last ones", y, 0, 0, -1, -1, -1);
    }

    private static void firstByParties() {
        FieldPitches x = new FieldPitches();
        x.pitch(0, 1000, 0, 70);
        x.pitch(0, 500, 0, 70);
        x.party(0, 100, 0, 501);
        x.party(0, 600, 0, 501);
        Due.due("3: the second FITS 0 alone", x.plan(3), 2);
        places("the most first", x, 0, 1, 0);
        FieldPitches y = new FieldPitches();
        y.pitch(0, 1000, 0, 70);
        y.pitch(0, 1000, 0, 70);
        y.party(0, 100, 0, 501);
        y.party(0, 100, 0, 501);
        y.put(0, 1);
        y.put(1, 0);
        Due.due("3: where they were doesn't count", y.plan(3), 2);
        places("the first", y, 0, 0, 1);
    }

    private static void greatest() {
        FieldPitches x = Edge.full();
        Due.due("3: 4 of 24 PARTIES on 12 PITCHES", x.plan(0xF), 4);
        places("the first ones", x, 0, 0, 1, 2, 3);
        Due.due("3: 4 more", x.plan(0xF00000), 4);
        places("the next ones", x, 20, 4, 5, 6, 7);
        Due.due("3: 4 more", x.plan(0xF0), 4);
        Due.due("3: none is FREE", x.plan(0xF00), 0);
        Due.due("3: one of them leaves", x.plan(0x701), 1);
        places("the first stays", x, 0, 0);
    }

    private static void again() {
        FieldPitches x = crowd(3, 3);
        Due.due("3: once", x.plan(7), 3);
        Due.due("3: again", x.plan(7), 3);
        places("the same", x, 0, 0, 1, 2);
        Due.due("3: one of them alone", x.plan(4), 1);
        places("it stays", x, 2, 2);
        FieldPitches y = crowd(12, 4);
        for (int set : new int[] {15, 7, 3, 1, 3, 7, 15}) {
            Due.due("3: some of them", y.plan(set), Integer.bitCount(set));
            places("the first ones", y, 0, 0, 1, 2, 3);
        }
    }
}
