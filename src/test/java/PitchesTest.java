/** Promises 1 to 15: pitches, parties. */
final class PitchesTest {
    private static final int[] WRONG_NUMBERS = {-1, 1, 2, 12, 24, Integer.MIN_VALUE, Integer.MAX_VALUE};

    private PitchesTest() {
    }

    public static void main(String[] args) {
        newObject();
        pitch();
        pitchOf();
        shade();
        far();
        party();
        partyOf();
        why();
        near();
        put();
        putFindings();
        nights();
        who();
        gaps();
        plan();
        planFindings();
        planGaps();
        planNear();
        planTwice();
        planFirst();
        apart();
        Due.end();
    }

    /** A field of pitches that differ in nothing but x. */
    private static FieldPitches plainField(int pitches) {
        FieldPitches x = new FieldPitches();
        for (int p = 0; p < pitches; p++) {
            Due.due("pitch", x.pitch(100 * p, 3000, 32, 70), p);
        }
        return x;
    }

    private static void newObject() {
        FieldPitches x = new FieldPitches();
        for (int what = 0; what <= 7; what++) {
            Due.due("1 count(" + what + ")", x.count(what), 0);
        }
        Due.due("1 status(-1)", x.status(-1), 0);
        Due.due("1 undo", x.undo(), Due.NONE);
        Due.due("1 tear", x.tear(), 0);
        Due.due("1 repeal(0)", x.repeal(0), 0);
        Due.due("1 repeal(1)", x.repeal(1), 0);
        Due.due("1 wipe", x.wipe(), 0);
        Due.due("1 dry", x.dry(), 0);
        Due.due("1 as", x.as(9, 0), Due.MISSING);
        Due.due("1 join", x.join(3), Due.MISSING);
        for (int post = 0; post < 4; post++) {
            Due.due("1 limit", x.limit(post, 0), 32);
        }
    }

    private static void pitch() {
        FieldPitches x = new FieldPitches();
        int[][] wrong = {
            {-1, 100, 0, 0}, {10000, 100, 0, 0}, {0, 99, 0, 0}, {0, 3100, 0, 0}, {0, -100, 0, 0},
            {0, 0, 0, 0}, {0, 100, -1, 0}, {0, 100, 33, 0}, {0, 100, 99, 0}, {0, 100, 933, 0},
            {0, 100, 1000, 0}, {0, 100, 0, -1}, {0, 100, 0, 4}, {0, 100, 0, 9}, {0, 100, 0, 74},
            {0, 100, 0, 80}, {Integer.MIN_VALUE, 100, 0, 0}, {0, Integer.MAX_VALUE, 0, 0},
            {0, 100, Integer.MIN_VALUE, 0}, {0, 100, 0, Integer.MAX_VALUE},
        };
        for (int[] w : wrong) {
            Due.due("2 pitch beyond", x.pitch(w[0], w[1], w[2], w[3]), Due.BEYOND);
        }
        Due.due("2 count after beyond", x.count(1), 0);
        Due.due("2 pitch least", x.pitch(0, 100, 0, 0), 0);
        Due.due("2 pitch most", x.pitch(9999, 3099, 932, 73), 1);
        for (int p = 2; p < 12; p++) {
            Due.due("2 pitch", x.pitch(p, 100, 0, 0), p);
        }
        Due.due("2 pitch full", x.pitch(0, 100, 0, 0), Due.FULL);
        Due.due("2 beyond ahead of full", x.pitch(0, 0, 0, 0), Due.BEYOND);
        Due.due("2 count", x.count(1), 12);
    }

    private static void pitchOf() {
        FieldPitches x = new FieldPitches();
        x.pitch(1234, 1756, 831, 52);
        int[] due = {12, 34, 17, 56, 8, 31, 5, 2};
        for (int what = 0; what < due.length; what++) {
            Due.due("3 pitchOf(0, " + what + ")", x.pitchOf(0, what), due[what]);
        }
        Due.due("3 what 8", x.pitchOf(0, 8), Due.BEYOND);
        Due.due("3 what -1", x.pitchOf(0, -1), Due.BEYOND);
        for (int p : WRONG_NUMBERS) {
            Due.due("3 pitch " + p, x.pitchOf(p, 0), Due.BEYOND);
        }
    }

    private static void shade() {
        FieldPitches x = new FieldPitches();
        x.pitch(0, 100, 732, 0);
        Due.due("4 shade", x.shade(0, 9), 7);
        Due.due("4 shade beyond", x.shade(0, 10), Due.BEYOND);
        Due.due("4 shade beyond", x.shade(0, -1), Due.BEYOND);
        Due.due("4 shade", x.shade(0, 0), 9);
        Due.due("4 pitchOf", x.pitchOf(0, 4), 0);
        Due.due("4 amps stay", x.pitchOf(0, 5), 32);
        for (int p : WRONG_NUMBERS) {
            Due.due("4 pitch " + p, x.shade(p, 0), Due.BEYOND);
        }
    }

    private static void far() {
        FieldPitches x = new FieldPitches();
        x.pitch(9900, 100, 0, 0);
        x.pitch(99, 100, 0, 0);
        x.pitch(5060, 100, 0, 0);
        Due.due("5 far", x.far(0, 1), 198);
        Due.due("5 far", x.far(1, 0), 198);
        Due.due("5 far", x.far(2, 1), 50 + 39);
        Due.due("5 far itself", x.far(2, 2), 0);
        Due.due("5 beyond", x.far(3, 0), Due.BEYOND);
        Due.due("5 beyond", x.far(0, 3), Due.BEYOND);
        Due.due("5 beyond", x.far(-1, 0), Due.BEYOND);
        Due.due("5 beyond", x.far(0, -1), Due.BEYOND);
    }

    private static void party() {
        FieldPitches x = new FieldPitches();
        int[][] wrong = {
            {-1, 100, 0, 1}, {5, 100, 0, 1}, {0, 99, 0, 1}, {0, 0, 0, 1}, {0, 133, 0, 1},
            {0, 3033, 0, 1}, {0, 3100, 0, 1}, {0, -100, 0, 1}, {0, 100, -1, 1}, {0, 100, 8, 1},
            {0, 100, 0, 0}, {0, 100, 0, 31}, {0, 100, 0, 100}, {0, 100, 0, -1}, {0, 100, 0, 10001},
            {0, 100, 0, 9902}, {0, 100, 0, 7130}, {0, 100, 0, Integer.MAX_VALUE},
            {0, 100, 0, Integer.MIN_VALUE}, {Integer.MIN_VALUE, 100, 0, 1},
        };
        for (int[] w : wrong) {
            Due.due("6 party beyond", x.party(w[0], w[1], w[2], w[3]), Due.BEYOND);
        }
        Due.due("6 count after beyond", x.count(2), 0);
        Due.due("6 party least", x.party(0, 100, 0, 1), 0);
        Due.due("6 party most", x.party(4, 3032, 7, 7030), 1);
        Due.due("6 party late", x.party(0, 100, 0, 9901), 2);
        x.nights(2);
        Due.due("6 party of yesterday", x.party(0, 100, 0, 101), Due.BEYOND);
        Due.due("6 party of yesterday and on", x.party(0, 100, 0, 105), Due.BEYOND);
        Due.due("6 party of today", x.party(0, 100, 0, 201), 3);
        for (int p = 4; p < 24; p++) {
            Due.due("6 party", x.party(1, 100, 0, 501), p);
        }
        Due.due("6 party full", x.party(0, 100, 0, 501), Due.FULL);
        Due.due("6 beyond ahead of full", x.party(5, 100, 0, 501), Due.BEYOND);
        Due.due("6 count", x.count(2), 24);
        FieldPitches y = new FieldPitches();
        y.nights(50);
        y.nights(49);
        Due.due("6 party of yesterday, late", y.party(0, 100, 0, 9801), Due.BEYOND);
        Due.due("6 party of today, late", y.party(0, 100, 0, 9901), 0);
    }

    private static void partyOf() {
        FieldPitches x = plainField(1);
        x.party(3, 1431, 5, 4217);
        x.party(1, 100, 0, 201);
        int[] due = {3, 14, 31, 5, 42, 17, -1, -1, -1, 0};
        for (int what = 0; what < due.length; what++) {
            Due.due("7 partyOf(0, " + what + ")", x.partyOf(0, what), due[what]);
        }
        Due.due("7 what 10", x.partyOf(0, 10), Due.BEYOND);
        Due.due("7 what -1", x.partyOf(0, -1), Due.BEYOND);
        Due.due("7 party 2", x.partyOf(2, 0), Due.BEYOND);
        Due.due("7 party -1", x.partyOf(-1, 0), Due.BEYOND);
        x.near(0, 1);
        x.put(0, 0);
        int paid = x.pay(0);
        Due.due("7 paid", paid, 17 * 2 * (10 + 14 + 62));
        Due.due("7 pitch", x.partyOf(0, 6), 0);
        Due.due("7 near", x.partyOf(0, 7), 1);
        Due.due("7 paid", x.partyOf(0, 8), paid);
        x.cancel(0);
        Due.due("7 cancelled", x.partyOf(0, 6), -2);
        Due.due("7 paid, cancelled", x.partyOf(0, 8), paid);
        x.nights(1);
        Due.due("7 not come", x.partyOf(1, 9), 0);
        x.nights(1);
        Due.due("7 come today", x.partyOf(1, 9), 1);
        x.nights(10);
        Due.due("7 come earlier", x.partyOf(1, 9), 1);
    }

    private static void why() {
        FieldPitches x = new FieldPitches();
        x.pitch(0, 1000, 716, 0);
        x.pitch(0, 1000, 616, 10);
        x.pitch(0, 1000, 616, 20);
        x.pitch(0, 1000, 616, 30);
        x.pitch(0, 1000, 916, 70);
        // kind, size, wishes, then WHY for each of the pitches
        int[][] due = {
            {0, 1032, 4, 0, 0, 0, 0, 0}, {0, 1100, 3, 1, 1, 1, 1, 1}, {0, 1000, 1, 2, 0, 2, 0, 0},
            {0, 1000, 2, 3, 3, 0, 0, 0}, {0, 1000, 3, 2, 3, 2, 0, 0}, {1, 1032, 0, 4, 0, 0, 0, 4},
            {1, 1100, 0, 1, 1, 1, 1, 1}, {1, 1000, 3, 2, 3, 2, 0, 4}, {1, 1000, 4, 4, 0, 0, 0, 4},
            {2, 1016, 0, 0, 0, 0, 0, 0}, {2, 1017, 4, 5, 5, 5, 5, 5}, {2, 1016, 4, 6, 6, 6, 6, 0},
            {2, 1016, 7, 2, 3, 2, 6, 0}, {2, 1117, 7, 1, 1, 1, 1, 1}, {3, 716, 0, 0, 0, 0, 0, 0},
            {3, 816, 0, 7, 7, 7, 7, 7}, {3, 817, 4, 5, 5, 5, 5, 5}, {3, 816, 4, 6, 6, 6, 6, 7},
            {3, 816, 1, 2, 7, 2, 7, 7}, {4, 1016, 0, 6, 6, 6, 6, 0}, {4, 1017, 0, 5, 5, 5, 5, 5},
            {4, 1016, 2, 3, 3, 6, 6, 0}, {4, 1016, 4, 6, 6, 6, 6, 0},
        };
        for (int i = 0; i < due.length; i++) {
            Due.due("8 party", x.party(due[i][0], due[i][1], due[i][2], 1), i);
            for (int p = 0; p < 5; p++) {
                Due.due("8 why(" + i + ", " + p + ")", x.why(i, p), due[i][3 + p]);
            }
        }
        Due.due("8 beyond", x.why(due.length, 0), Due.BEYOND);
        Due.due("8 beyond", x.why(-1, 0), Due.BEYOND);
        Due.due("8 beyond", x.why(0, 5), Due.BEYOND);
        Due.due("8 beyond", x.why(0, -1), Due.BEYOND);
    }

    private static void near() {
        FieldPitches x = new FieldPitches();
        x.party(0, 100, 0, 101);
        x.party(0, 100, 0, 101);
        x.party(0, 100, 0, 101);
        Due.due("9 near", x.near(0, 1), -1);
        Due.due("9 near", x.near(0, 2), 1);
        Due.due("9 itself", x.near(0, 0), Due.BEYOND);
        Due.due("9 near -2", x.near(0, -2), Due.BEYOND);
        Due.due("9 near 3", x.near(0, 3), Due.BEYOND);
        Due.due("9 party 3", x.near(3, 0), Due.BEYOND);
        Due.due("9 party -1", x.near(-1, 0), Due.BEYOND);
        Due.due("9 party -1 to nobody", x.near(-1, -1), Due.BEYOND);
        Due.due("9 nobody", x.near(0, -1), 2);
        Due.due("9 nobody again", x.near(0, -1), -1);
        x.cancel(1);
        Due.due("9 one that was cancelled", x.near(1, 2), -1);
        Due.due("9 to one that was cancelled", x.near(2, 1), -1);
        Due.due("9 stays", x.partyOf(2, 7), 1);
    }

    private static void put() {
        FieldPitches x = plainField(2);
        x.party(0, 100, 0, 1003);
        x.party(0, 100, 0, 1201);
        x.party(0, 100, 0, 1301);
        x.party(0, 100, 0, 905);
        x.party(0, 100, 0, 2);
        Due.due("10 put", x.put(0, 0), -1);
        Due.due("10 last night is taken", x.put(1, 0), Due.NONE);
        Due.due("10 the night behind is free", x.put(2, 0), -1);
        Due.due("10 all around", x.put(3, 0), Due.NONE);
        Due.due("10 nothing changed", x.partyOf(3, 6), -1);
        Due.due("10 the same again", x.put(0, 0), 0);
        Due.due("10 to another", x.put(0, 1), 0);
        Due.due("10 back", x.put(0, 0), 1);
        Due.due("10 waits, has come", x.put(4, 0), -1);
        Due.due("10 is on, has come", x.put(4, 0), Due.STATE);
        x.nights(11);
        Due.due("10 waits, has come late", x.put(3, 1), -1);
        Due.due("10 came earlier", x.put(3, 1), Due.STATE);
    }

    private static void putFindings() {
        FieldPitches x = new FieldPitches();
        x.pitch(0, 500, 0, 0);
        x.party(0, 600, 0, 1);
        x.party(0, 500, 0, 1);
        x.party(0, 600, 0, 1);
        Due.due("10 doesn't fit", x.put(0, 0), Due.KIND);
        x.put(1, 0);
        Due.due("10 kind ahead of none", x.put(0, 0), Due.KIND);
        x.cancel(2);
        Due.due("10 state ahead of kind", x.put(2, 0), Due.STATE);
        Due.due("10 beyond ahead of state", x.put(2, 1), Due.BEYOND);
        Due.due("10 beyond", x.put(0, -1), Due.BEYOND);
        Due.due("10 beyond", x.put(-1, 0), Due.BEYOND);
        Due.due("10 beyond", x.put(3, 0), Due.BEYOND);
        Due.due("10 is on, has come", x.put(1, 0), Due.STATE);
    }

    private static void nights() {
        FieldPitches x = new FieldPitches();
        Due.due("11 0", x.nights(0), Due.BEYOND);
        Due.due("11 -1", x.nights(-1), Due.BEYOND);
        Due.due("11 51", x.nights(51), Due.BEYOND);
        Due.due("11 1", x.nights(1), 1);
        Due.due("11 50", x.nights(50), 51);
        Due.due("11 49", x.nights(49), Due.STATE);
        Due.due("11 beyond ahead of state", x.nights(51), Due.BEYOND);
        Due.due("11 great", x.nights(Integer.MAX_VALUE), Due.BEYOND);
        Due.due("11 48", x.nights(48), 99);
        Due.due("11 1 more", x.nights(1), Due.STATE);
        Due.due("11 today", x.count(0), 99);
    }

    private static void who() {
        FieldPitches x = plainField(2);
        x.party(0, 100, 0, 6205);
        x.party(0, 100, 0, 9901);
        x.put(0, 1);
        x.put(1, 1);
        for (int night = 0; night <= 99; night++) {
            int due = night >= 62 && night <= 66 ? 0 : night == 99 ? 1 : -1;
            Due.due("12 who(1, " + night + ")", x.who(1, night), due);
            Due.due("12 who(0, " + night + ")", x.who(0, night), -1);
        }
        Due.due("12 night 100", x.who(1, 100), Due.BEYOND);
        Due.due("12 night -1", x.who(1, -1), Due.BEYOND);
        Due.due("12 pitch 2", x.who(2, 0), Due.BEYOND);
        Due.due("12 pitch -1", x.who(-1, 0), Due.BEYOND);
        x.cancel(0);
        Due.due("12 cancelled", x.who(1, 62), -1);
    }

    private static void stay(FieldPitches x, int pitch, int first, int nights) {
        int party = x.party(0, 100, 0, 100 * first + nights);
        Due.due("put", x.put(party, pitch), -1);
    }

    private static void gaps() {
        FieldPitches x = plainField(3);
        Due.due("13 none", x.gaps(0), 0);
        stay(x, 0, 1, 1);
        Due.due("13 night 0 is none", x.gaps(0), 0);
        stay(x, 0, 3, 1);
        Due.due("13 one", x.gaps(0), 1);
        stay(x, 0, 6, 2);
        Due.due("13 two nights are none", x.gaps(0), 1);
        stay(x, 1, 60, 3);
        stay(x, 1, 64, 1);
        Due.due("13 night 63", x.gaps(1), 1);
        stay(x, 1, 66, 1);
        Due.due("13 night 65", x.gaps(1), 2);
        stay(x, 1, 63, 1);
        Due.due("13 night 63 is filled", x.gaps(1), 1);
        stay(x, 2, 62, 1);
        stay(x, 2, 64, 1);
        Due.due("13 night 63 again", x.gaps(2), 1);
        stay(x, 2, 96, 1);
        stay(x, 2, 98, 1);
        Due.due("13 night 97, not 99", x.gaps(2), 2);
        Due.due("13 all", x.gaps(-1), 4);
        Due.due("13 beyond", x.gaps(3), Due.BEYOND);
        Due.due("13 beyond", x.gaps(-2), Due.BEYOND);
        FieldPitches y = plainField(1);
        stay(y, 0, 63, 1);
        stay(y, 0, 65, 1);
        Due.due("13 night 64", y.gaps(0), 1);
        stay(y, 0, 97, 1);
        stay(y, 0, 99, 1);
        Due.due("13 night 98", y.gaps(0), 2);
        stay(y, 0, 0, 1);
        stay(y, 0, 2, 1);
        Due.due("13 night 1", y.gaps(0), 3);
    }

    private static void plan() {
        FieldPitches x = plainField(2);
        x.party(0, 100, 0, 110);
        x.party(0, 100, 0, 505);
        x.party(0, 100, 0, 903);
        x.party(0, 100, 0, 1201);
        Due.due("14 three ways cross in night 9", x.plan(7), 2);
        Due.due("14 the first", x.partyOf(0, 6), 0);
        Due.due("14 the second", x.partyOf(1, 6), 1);
        Due.due("14 the third waits", x.partyOf(2, 6), -1);
        Due.due("14 all four", x.plan(15), 3);
        Due.due("14 the first", x.partyOf(0, 6), 0);
        Due.due("14 the second", x.partyOf(1, 6), 1);
        Due.due("14 the third waits", x.partyOf(2, 6), -1);
        Due.due("14 the last makes a gap on 0", x.partyOf(3, 6), 1);
        Due.due("14 no pitch is free", x.plan(4), 0);
        FieldPitches y = new FieldPitches();
        y.party(0, 100, 0, 101);
        Due.due("14 no pitches", y.plan(1), 0);
        y.pitch(0, 500, 0, 0);
        y.party(0, 600, 0, 501);
        Due.due("14 one doesn't fit", y.plan(3), 1);
        Due.due("14 it waits", y.partyOf(1, 6), -1);
        FieldPitches z = plainField(1);
        z.party(0, 100, 0, 110);
        z.party(0, 100, 0, 201);
        z.party(0, 100, 0, 401);
        z.put(0, 0);
        Due.due("14 two for one", z.plan(7), 2);
        Due.due("14 the long one waits now", z.partyOf(0, 6), -1);
    }

    private static void planFindings() {
        FieldPitches x = plainField(2);
        for (int p = 0; p < 5; p++) {
            x.party(0, 100, 0, 501 + 100 * p);
        }
        Due.due("14 none", x.plan(0), Due.BEYOND);
        Due.due("14 no such party", x.plan(32), Due.BEYOND);
        Due.due("14 below 0", x.plan(-1), Due.BEYOND);
        Due.due("14 the highest bit", x.plan(Integer.MIN_VALUE), Due.BEYOND);
        Due.due("14 five", x.plan(31), Due.BEYOND);
        Due.due("14 four", x.plan(30), 4);
        x.cancel(0);
        Due.due("14 cancelled", x.plan(1), Due.STATE);
        Due.due("14 cancelled among others", x.plan(15), Due.STATE);
        Due.due("14 beyond ahead of state", x.plan(33), Due.BEYOND);
        x.nights(6);
        Due.due("14 has come", x.plan(6), Due.STATE);
        Due.due("14 has not come", x.plan(4), 1);
        Due.due("14 it has come today", x.plan(2), Due.STATE);
    }

    private static void planGaps() {
        FieldPitches x = plainField(2);
        stay(x, 0, 1, 2);
        stay(x, 1, 1, 1);
        stay(x, 1, 6, 2);
        x.party(0, 100, 0, 402);
        Due.due("14 gaps", x.plan(8), 1);
        Due.due("14 pitch 0 would have one, 1 none", x.partyOf(3, 6), 1);
        FieldPitches y = plainField(2);
        stay(y, 1, 1, 2);
        stay(y, 1, 4, 2);
        y.party(0, 100, 0, 301);
        Due.due("14 a gap is filled", y.plan(4), 1);
        Due.due("14 on pitch 1", y.partyOf(2, 6), 1);
        Due.due("14 gaps", y.gaps(-1), 0);
        FieldPitches z = plainField(2);
        stay(z, 0, 10, 1);
        z.party(0, 100, 0, 1201);
        z.party(0, 100, 0, 1101);
        z.near(1, 0);
        Due.due("14 the second fills what the first makes", z.plan(6), 2);
        Due.due("14 first", z.partyOf(1, 6), 0);
        Due.due("14 second", z.partyOf(2, 6), 0);
    }

    private static void planNear() {
        FieldPitches x = plainField(12);
        stay(x, 7, 5, 1);
        x.party(0, 100, 0, 501);
        x.party(0, 100, 0, 501);
        x.near(1, 0);
        Due.due("14 near", x.plan(2), 1);
        Due.due("14 beside it, the lesser", x.partyOf(1, 6), 6);
        x.near(0, 2);
        x.near(2, 0);
        Due.due("14 near, wished twice", x.plan(6), 2);
        Due.due("14 beside it", x.partyOf(1, 6), 6);
        Due.due("14 beside it", x.partyOf(2, 6), 8);
        Due.due("14 apart", x.apart(), 3);
        x.near(1, 2);
        Due.due("14 to each other", x.plan(6), 2);
        Due.due("14 the nearest", x.apart(), 3);
        FieldPitches y = plainField(4);
        stay(y, 3, 5, 1);
        y.party(0, 100, 0, 501);
        y.near(0, 1);
        Due.due("14 another one wishes", y.plan(2), 1);
        Due.due("14 beside it", y.partyOf(1, 6), 2);
        FieldPitches z = plainField(4);
        stay(z, 3, 5, 1);
        stay(z, 2, 3, 1);
        z.party(0, 100, 0, 501);
        z.near(2, 0);
        Due.due("14 gaps ahead of far", z.plan(4), 1);
        Due.due("14 pitch 2 would have a gap", z.partyOf(2, 6), 1);
    }

    /** Two that wish for each other count twice, be the other one in the set or not. */
    private static void planTwice() {
        FieldPitches x = plainField(4);
        stay(x, 0, 5, 1);
        stay(x, 3, 5, 1);
        x.party(0, 100, 0, 501);
        x.near(0, 2);
        x.near(1, 2);
        x.near(2, 1);
        Due.due("14 twice to one, once to another", x.plan(4), 1);
        Due.due("14 nearer to the one", x.partyOf(2, 6), 2);
        FieldPitches y = new FieldPitches();
        for (int p = 0; p < 4; p++) {
            y.pitch(100 * p, p == 3 ? 3000 : 1000, 32, 70);
        }
        stay(y, 0, 5, 1);
        y.party(0, 500, 0, 501);
        y.party(0, 2500, 0, 501);
        y.near(0, 1);
        y.near(1, 2);
        y.near(2, 1);
        Due.due("14 twice to one of the set", y.plan(6), 2);
        Due.due("14 nearer to it", y.partyOf(1, 6), 2);
        Due.due("14 it fits one alone", y.partyOf(2, 6), 3);
        FieldPitches z = new FieldPitches();
        z.pitch(0, 1000, 32, 70);
        z.pitch(500, 1000, 32, 70);
        z.party(0, 2000, 0, 501);
        z.party(0, 1000, 0, 501);
        z.near(0, 1);
        z.near(1, 0);
        Due.due("14 one fits none", z.plan(3), 1);
        Due.due("14 it waits", z.partyOf(0, 6), -1);
        Due.due("14 the other isn't bound", z.partyOf(1, 6), 0);
        Due.due("14 apart", z.apart(), 0);
    }

    private static void planFirst() {
        FieldPitches x = plainField(3);
        for (int p = 0; p < 4; p++) {
            x.party(0, 100, 0, 501);
        }
        x.put(3, 0);
        Due.due("14 four for three", x.plan(15), 3);
        for (int p = 0; p < 3; p++) {
            Due.due("14 the least pitch", x.partyOf(p, 6), p);
        }
        Due.due("14 waiting is behind all", x.partyOf(3, 6), -1);
        Due.due("14 others stay", x.plan(8), 0);
        Due.due("14 those that are on", x.count(7), 1);
    }

    private static void apart() {
        FieldPitches x = plainField(12);
        stay(x, 0, 5, 1);
        stay(x, 11, 5, 1);
        x.party(0, 100, 0, 501);
        Due.due("15 nobody wishes", x.apart(), 0);
        x.near(0, 1);
        Due.due("15 one wishes", x.apart(), 11);
        x.near(1, 0);
        Due.due("15 both wish", x.apart(), 22);
        x.near(2, 0);
        Due.due("15 one waits", x.apart(), 22);
        x.put(2, 4);
        Due.due("15 all", x.apart(), 26);
        x.cancel(0);
        Due.due("15 cancelled", x.apart(), 0);
    }
}
