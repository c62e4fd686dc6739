/** The boundary cases of the Terms: the findings and 1, sentence by sentence. */
final class EdgesOfFieldTest {
    private EdgesOfFieldTest() {
    }

    public static void main(String[] args) {
        findings();
        quotientsAreCut();
        setsAreBits();
        nights();
        mostPitches();
        places();
        lengthAndHeight();
        shadeAndAmps();
        flagsAndPost();
        far();
        mostParties();
        kinds();
        partyLengthAndAmps();
        wishes();
        firstNight();
        nightsOfParty();
        lastNight();
        waitsAtFirst();
        come();
        whyLength();
        whyDogs();
        whyHush();
        whyShade();
        whyAmps();
        whySewer();
        whyGreat();
        whySeason();
        price();
        priceOfSeasonIsCut();
        free();
        gaps();
        noGaps();
        Due.end();
    }

    private static void findings() {
        Edge.refused("Terms: LOW is BEYOND", Edge::busy, x -> x.pitchOf(3, 0), -1000001);
        Edge.refused("Terms: LOW - 1 is FULL", Edge::full, x -> x.wash(0, 1), -1000002);
        Edge.refused("Terms: LOW - 2 is KIND", Edge::busy, x -> x.put(2, 2), -1000003);
        Edge.refused("Terms: LOW - 3 is NONE", Edge::busy, x -> x.stars(0), -1000004);
        Edge.refused("Terms: LOW - 4 is STATE", Edge::busy, x -> x.pay(4), -1000005);
        Edge.refused("Terms: LOW - 5 is MISSING", Edge::busy, x -> x.join(3), -1000006);
        Edge.refused("Terms: LOW - 6 is SIZE", Edge::busy, x -> x.join(1), -1000007);
    }

    private static int worth(String text) {
        FieldPitches x = new FieldPitches();
        x.party(0, 100, 0, 1);
        Due.holds("a text: " + text, Due.tell(x, 0, text) > 0);
        return x.says(0, 0);
    }

    private static void quotientsAreCut() {
        Due.due("Terms: 7/2 is 3", worth("7/2"), 3);
        Due.due("Terms: -7/2 is -3", worth("100+-7/2"), 97);
        Due.due("Terms: 7/-2 is -3", worth("100+7/-2"), 97);
        Due.due("Terms: -7/-2 is 3", worth("-7/-2"), 3);
        Due.due("Terms: -1/2 is 0", worth("100+-1/2"), 100);
    }

    private static void setsAreBits() {
        FieldPitches x = Edge.plain(2);
        Edge.on(x, 0, 0, 1);
        x.party(0, 100, 0, 1);
        Edge.on(x, 1, 0, 1);
        x.use(0, 1 << 23 | 1, 40);
        Due.due("Terms: HOURS 0 and 23 as bits", x.trips(0), 8388609);
        Due.due("Terms: PARTIES 0 and 2 as bits", x.wet(1), 5);
    }

    private static void nights() {
        Due.due("1: TODAY is 0 at first", new FieldPitches().count(0), 0);
        Edge.range("1: NIGHT", Edge::busy, (x, v) -> x.who(0, v), 0, 99);
        FieldPitches x = Edge.plain(1);
        Edge.on(x, 0, 99, 1);
        Edge.on(x, 0, 0, 1);
        Due.due("1: the least NIGHT", x.who(0, 0), 1);
        Due.due("1: the NIGHT behind the least", x.who(0, 1), -1);
        Due.due("1: the greatest NIGHT", x.who(0, 99), 0);
        Due.due("1: the NIGHT ahead of the greatest", x.who(0, 98), -1);
    }

    private static void mostPitches() {
        FieldPitches x = Edge.plain(11);
        Due.due("1: the 12th PITCH", x.pitch(0, 100, 0, 0), 11);
        Due.due("1: the 13th PITCH", x.pitch(0, 100, 0, 0), Due.FULL);
        Edge.refused("1: PITCHES, at most 12", Edge::full, y -> y.pitch(0, 100, 0, 0), Due.FULL);
        Due.due("1: PITCH 11 is there", x.pitchOf(11, 2), 1);
        Due.due("1: PITCH 12 isn't", x.pitchOf(12, 2), Due.BEYOND);
    }

    /** A new PITCH has this as what, one of its numbers. */
    private static void pitchHas(String name, int what, int due, int... a) {
        FieldPitches x = new FieldPitches();
        Due.due("1: " + name + " " + due, x.pitch(a[0], a[1], a[2], a[3]), 0);
        Due.due("1: " + name, x.pitchOf(0, what), due);
    }

    private static void places() {
        Edge.bounds("1: x", Edge::busy, (x, v) -> x.pitch(100 * v + 7, 100, 0, 0), 0, 99);
        Edge.bounds("1: x with y 0", Edge::busy, (x, v) -> x.pitch(100 * v, 100, 0, 0), 0, 99);
        Edge.range("1: x and y", Edge::busy, (x, v) -> x.pitch(v, 100, 0, 0), 0, 9999);
        pitchHas("x", 0, 0, 99, 100, 0, 0);
        pitchHas("x", 0, 1, 100, 100, 0, 0);
        pitchHas("x", 0, 99, 9900, 100, 0, 0);
        pitchHas("y", 1, 0, 9900, 100, 0, 0);
        pitchHas("y", 1, 99, 99, 100, 0, 0);
        pitchHas("y", 1, 0, 100, 100, 0, 0);
    }

    private static void lengthAndHeight() {
        Edge.bounds("1: LENGTH", Edge::busy, (x, v) -> x.pitch(0, 100 * v + 50, 0, 0), 1, 30);
        Edge.bounds("1: LENGTH with HEIGHT 0", Edge::busy, (x, v) -> x.pitch(0, 100 * v, 0, 0), 1, 30);
        Edge.range("1: LENGTH and HEIGHT", Edge::busy, (x, v) -> x.pitch(0, v, 0, 0), 100, 3099);
        pitchHas("LENGTH", 2, 1, 0, 199, 0, 0);
        pitchHas("LENGTH", 2, 30, 0, 3000, 0, 0);
        pitchHas("HEIGHT", 3, 0, 0, 3000, 0, 0);
        pitchHas("HEIGHT", 3, 99, 0, 199, 0, 0);
        pitchHas("HEIGHT", 3, 99, 0, 3099, 0, 0);
        pitchHas("HEIGHT", 3, 0, 0, 200, 0, 0);
    }

    private static void shadeAndAmps() {
        Edge.bounds("1: SHADE", Edge::busy, (x, v) -> x.pitch(0, 100, 100 * v + 5, 0), 0, 9);
        Edge.bounds("1: SHADE with AMPS 0", Edge::busy, (x, v) -> x.pitch(0, 100, 100 * v, 0), 0, 9);
        Edge.bounds("1: AMPS", Edge::busy, (x, v) -> x.pitch(0, 100, 300 + v, 0), 0, 32);
        Edge.bounds("1: AMPS with SHADE 0", Edge::busy, (x, v) -> x.pitch(0, 100, v, 0), 0, 32);
        Edge.range("1: AMPS with SHADE 9", Edge::busy, (x, v) -> x.pitch(0, 100, v, 0), 900, 932);
        Edge.refused("1: AMPS 99", Edge::busy, x -> x.pitch(0, 100, 599, 0), Due.BEYOND);
        pitchHas("SHADE", 4, 0, 0, 100, 32, 0);
        pitchHas("SHADE", 4, 9, 0, 100, 900, 0);
        pitchHas("AMPS", 5, 0, 0, 100, 900, 0);
        pitchHas("AMPS", 5, 32, 0, 100, 932, 0);
    }

    private static void flagsAndPost() {
        Edge.bounds("1: FLAGS", Edge::busy, (x, v) -> x.pitch(0, 100, 0, 10 * v + 2), 0, 7);
        Edge.bounds("1: FLAGS with POST 0", Edge::busy, (x, v) -> x.pitch(0, 100, 0, 10 * v), 0, 7);
        Edge.bounds("1: POST", Edge::busy, (x, v) -> x.pitch(0, 100, 0, 20 + v), 0, 3);
        Edge.bounds("1: POST without FLAGS", Edge::busy, (x, v) -> x.pitch(0, 100, 0, v), 0, 3);
        Edge.range("1: POST with all FLAGS", Edge::busy, (x, v) -> x.pitch(0, 100, 0, v), 70, 73);
        Edge.refused("1: POST 9", Edge::busy, x -> x.pitch(0, 100, 0, 59), Due.BEYOND);
        pitchHas("FLAGS", 6, 0, 0, 100, 0, 3);
        pitchHas("FLAGS", 6, 7, 0, 100, 0, 70);
        pitchHas("FLAGS", 6, 7, 0, 100, 0, 73);
        pitchHas("POST", 7, 0, 0, 100, 0, 70);
        pitchHas("POST", 7, 3, 0, 100, 0, 73);
    }

    private static void far() {
        FieldPitches x = new FieldPitches();
        x.pitch(0, 100, 0, 0);
        x.pitch(9999, 100, 0, 0);
        x.pitch(9900, 100, 0, 0);
        x.pitch(99, 100, 0, 0);
        x.pitch(0, 100, 0, 0);
        Due.due("1: FAR along both", x.far(0, 1), 198);
        Due.due("1: FAR along x", x.far(0, 2), 99);
        Due.due("1: FAR along y", x.far(3, 0), 99);
        Due.due("1: FAR along x up and y down", x.far(2, 3), 198);
        Due.due("1: FAR of two in one place", x.far(0, 4), 0);
    }

    private static void mostParties() {
        FieldPitches x = new FieldPitches();
        for (int p = 0; p < 23; p++) {
            x.party(0, 100, 0, 1);
        }
        Due.due("1: the 24th PARTY", x.party(0, 100, 0, 1), 23);
        Due.due("1: the 25th PARTY", x.party(0, 100, 0, 1), Due.FULL);
        Edge.refused("1: PARTIES, at most 24", Edge::full, y -> y.party(0, 100, 0, 1), Due.FULL);
        Due.due("1: PARTY 23 is there", x.partyOf(23, 1), 1);
        Due.due("1: PARTY 24 isn't", x.partyOf(24, 1), Due.BEYOND);
    }

    /** A new PARTY has this as what, one of its numbers. */
    private static void partyHas(String name, int what, int due, int... a) {
        FieldPitches x = new FieldPitches();
        Due.due("1: " + name + " " + due, x.party(a[0], a[1], a[2], a[3]), 0);
        Due.due("1: " + name, x.partyOf(0, what), due);
    }

    private static void kinds() {
        Edge.range("1: kind", Edge::busy, (x, v) -> x.party(v, 100, 0, 501), 0, 4);
        partyHas("kind", 0, 0, 0, 100, 0, 1);
        partyHas("kind", 0, 4, 4, 100, 0, 1);
    }

    private static void partyLengthAndAmps() {
        Edge.bounds("1: LENGTH", Edge::busy, (x, v) -> x.party(0, 100 * v + 10, 0, 501), 1, 30);
        Edge.bounds("1: LENGTH with AMPS 0", Edge::busy, (x, v) -> x.party(0, 100 * v, 0, 501), 1, 30);
        Edge.bounds("1: AMPS", Edge::busy, (x, v) -> x.party(0, 500 + v, 0, 501), 0, 32);
        Edge.range("1: AMPS with LENGTH 30", Edge::busy, (x, v) -> x.party(0, v, 0, 501), 3000, 3032);
        Edge.refused("1: AMPS 99", Edge::busy, x -> x.party(0, 599, 0, 501), Due.BEYOND);
        Edge.refused("1: LENGTH 0, AMPS 0", Edge::busy, x -> x.party(0, 0, 0, 501), Due.BEYOND);
        Edge.refused("1: AMPS -1", Edge::busy, x -> x.party(0, -1, 0, 501), Due.BEYOND);
        partyHas("LENGTH", 1, 1, 0, 132, 0, 1);
        partyHas("LENGTH", 1, 30, 0, 3000, 0, 1);
        partyHas("AMPS", 2, 0, 0, 3000, 0, 1);
        partyHas("AMPS", 2, 32, 0, 132, 0, 1);
    }

    private static void wishes() {
        Edge.range("1: WISHES", Edge::busy, (x, v) -> x.party(0, 100, v, 501), 0, 7);
        partyHas("WISHES", 3, 0, 0, 100, 0, 1);
        partyHas("WISHES", 3, 7, 0, 100, 7, 1);
    }

    private static void firstNight() {
        Edge.bounds("1: a first NIGHT", FieldPitches::new, (x, v) -> x.party(0, 100, 0, 100 * v + 1), 0, 99);
        for (int today : new int[] {1, 5, 98, 99}) {
            Edge.bounds("1: a first NIGHT from " + today + " on", () -> Edge.until(Edge.plain(1), today),
                    (x, v) -> x.party(0, 100, 0, 100 * v + 1), today, 99);
        }
        Edge.refused("1: a first NIGHT ahead of TODAY that lasts", Edge::busy, x -> x.party(0, 100, 0, 130), Due.BEYOND);
        partyHas("first NIGHT", 4, 0, 0, 100, 0, 30);
        partyHas("first NIGHT", 4, 99, 0, 100, 0, 9901);
    }

    private static void nightsOfParty() {
        Edge.bounds("1: NIGHTS", Edge::busy, (x, v) -> x.party(0, 100, 0, 1000 + v), 1, 30);
        Edge.bounds("1: NIGHTS from NIGHT 0 on", FieldPitches::new, (x, v) -> x.party(0, 100, 0, v), 1, 30);
        Edge.refused("1: NIGHTS 99", Edge::busy, x -> x.party(0, 100, 0, 1099), Due.BEYOND);
        Edge.refused("1: the least stay", Edge::busy, x -> x.party(0, 100, 0, Integer.MIN_VALUE), Due.BEYOND);
        Edge.refused("1: the greatest stay", Edge::busy, x -> x.party(0, 100, 0, Integer.MAX_VALUE), Due.BEYOND);
        partyHas("NIGHTS", 5, 1, 0, 100, 0, 1);
        partyHas("NIGHTS", 5, 30, 0, 100, 0, 7030);
    }

    private static void lastNight() {
        int[] taken = {7030, 7129, 9802, 9901};
        int[] refused = {7031, 7130, 9803, 9902, 9930};
        for (int stay : taken) {
            Edge.answers("1: its last one is 99: " + stay, FieldPitches::new, x -> x.party(0, 100, 0, stay), 0);
        }
        for (int stay : refused) {
            Edge.refused("1: its last one is above 99: " + stay, Edge::busy, x -> x.party(0, 100, 0, stay), Due.BEYOND);
        }
    }

    private static void waitsAtFirst() {
        FieldPitches x = Edge.plain(1);
        x.party(0, 100, 0, 1);
        Due.due("1: a PARTY waits at first", x.partyOf(0, 6), -1);
        Due.due("1: it is one that waits", x.count(7), 1);
        x.put(0, 0);
        Due.due("1: it is ON a PITCH", x.partyOf(0, 6), 0);
        x.party(0, 100, 0, 101);
        x.cancel(1);
        Due.due("1: it was CANCELLED", x.partyOf(1, 6), -2);
        Due.due("1: none waits", x.count(7), 0);
    }

    private static void come() {
        FieldPitches x = Edge.plain(2);
        x.party(0, 100, 0, 1);
        Due.due("1: COME in NIGHT 0", x.partyOf(0, 9), 1);
        int on = Edge.on(x, 0, 3, 1);
        x.party(0, 100, 0, 301);
        x.party(0, 100, 0, 301);
        x.cancel(3);
        x.nights(2);
        for (int p = on; p <= 3; p++) {
            Due.due("1: not COME the NIGHT ahead", x.partyOf(p, 9), 0);
        }
        x.nights(1);
        for (int p = on; p <= 3; p++) {
            Due.due("1: COME in its first NIGHT", x.partyOf(p, 9), 1);
        }
        x.nights(1);
        for (int p = on; p <= 3; p++) {
            Due.due("1: COME, its last NIGHT went", x.partyOf(p, 9), 1);
        }
    }

    /** WHY a PARTY doesn't FIT a PITCH of HEIGHT 0 and POST 0. */
    private static void why(String name, int due, int[] party, int[] pitch) {
        FieldPitches x = new FieldPitches();
        Due.due(name, x.pitch(0, 100 * pitch[0], 100 * pitch[1] + pitch[2], 10 * pitch[3]), 0);
        Due.due(name, x.party(party[0], 100 * party[1] + party[2], party[3], 1), 0);
        Due.due("1: " + name + ", kind " + party[0], x.why(0, 0), due);
    }

    private static int[] of(int... row) {
        return row;
    }

    private static void whyLength() {
        for (int kind : new int[] {0, 1, 2, 4}) {
            why("LENGTH is as great", 0, of(kind, 30, 0, 0), of(30, 0, 0, 7));
            why("LENGTH is greater by 1", 1, of(kind, 30, 0, 0), of(29, 0, 0, 7));
            why("LENGTH ahead of all", 1, of(kind, 2, 1, 7), of(1, 9, 0, 0));
        }
        why("LENGTH ahead of all", 1, of(3, 2, 1, 7), of(1, 9, 0, 0));
        why("LENGTH ahead of LENGTH and 3", 1, of(3, 11, 0, 0), of(10, 0, 0, 7));
        why("LENGTH is as great, but not with 3", 7, of(3, 10, 0, 0), of(10, 0, 0, 7));
    }

    private static void whyDogs() {
        for (int kind = 0; kind <= 4; kind++) {
            why("DOGS may come", 0, of(kind, 1, 0, 1), of(4, 0, 0, 1 + 4));
            why("DOGS may not come", 2, of(kind, 1, 0, 1), of(4, 0, 0, 2 + 4));
            why("no DOGS", 0, of(kind, 1, 0, 0), of(4, 0, 0, 2 + 4));
            why("DOGS ahead of all others", 2, of(kind, 4, 1, 7), of(4, 9, 0, 0));
        }
    }

    private static void whyHush() {
        for (int kind = 0; kind <= 4; kind++) {
            why("HUSH is there", 0, of(kind, 1, 0, 2), of(4, 0, 0, 2 + 4));
            why("HUSH isn't there", 3, of(kind, 1, 0, 2), of(4, 0, 0, 1 + 4));
            why("no HUSH", 0, of(kind, 1, 0, 0), of(4, 0, 0, 1 + 4));
            why("HUSH ahead of all others", 3, of(kind, 4, 1, 7), of(4, 9, 0, 1));
        }
    }

    private static void whyShade() {
        why("SHADE 6", 0, of(1, 1, 0, 0), of(1, 6, 0, 0));
        why("SHADE 7", 4, of(1, 1, 0, 0), of(1, 7, 0, 0));
        why("SHADE 9", 4, of(1, 1, 0, 0), of(1, 9, 0, 0));
        why("SHADE 0", 0, of(1, 1, 0, 0), of(1, 0, 0, 0));
        for (int kind : new int[] {0, 2, 3, 4}) {
            why("SHADE 9 for others", 0, of(kind, 1, 0, 0), of(4, 9, 0, 4));
        }
    }

    private static void whyAmps() {
        for (int kind = 2; kind <= 4; kind++) {
            why("AMPS as many", 0, of(kind, 1, 32, 0), of(4, 0, 32, 4));
            why("AMPS are 1 more", 5, of(kind, 1, 32, 0), of(4, 0, 31, 4));
            why("AMPS ahead of SEWER", 5, of(kind, 4, 1, 4), of(4, 0, 0, 0));
        }
        why("AMPS for a PARTY", 0, of(0, 1, 32, 0), of(1, 0, 0, 0));
        why("AMPS for a TENT", 0, of(1, 1, 32, 0), of(1, 0, 0, 0));
    }

    private static void whySewer() {
        for (int kind = 2; kind <= 4; kind++) {
            why("SEWER is there", 0, of(kind, 1, 0, 4), of(4, 0, 0, 4));
            why("SEWER isn't there", 6, of(kind, 1, 0, 4), of(4, 0, 0, 3));
            why("SEWER ahead of LENGTH and 3", 6, of(kind, 4, 0, 4), of(4, 0, 0, 3));
        }
        why("SEWER isn't needed", 0, of(2, 1, 0, 3), of(4, 0, 0, 3));
        why("SEWER isn't needed", 0, of(3, 1, 0, 3), of(4, 0, 0, 3));
        why("SEWER for a PARTY", 0, of(0, 1, 0, 4), of(1, 0, 0, 0));
        why("SEWER for a TENT", 0, of(1, 1, 0, 4), of(1, 0, 0, 0));
    }

    private static void whyGreat() {
        why("LENGTH and 3 are as great", 0, of(3, 27, 0, 0), of(30, 0, 0, 0));
        why("LENGTH and 3 are greater", 7, of(3, 28, 0, 0), of(30, 0, 0, 0));
        why("LENGTH 1 and 3", 0, of(3, 1, 0, 0), of(4, 0, 0, 0));
        why("LENGTH 1 and 3", 7, of(3, 1, 0, 0), of(3, 0, 0, 0));
        for (int kind : new int[] {0, 1, 2, 4}) {
            why("LENGTH and 3 for others", 0, of(kind, 30, 0, 0), of(30, 0, 0, 4));
        }
    }

    private static void whySeason() {
        why("SEWER isn't there, not needed", 6, of(4, 1, 0, 0), of(30, 0, 32, 3));
        why("SEWER is there, not needed", 0, of(4, 1, 0, 0), of(30, 0, 32, 4));
        why("as VAN first", 5, of(4, 1, 1, 0), of(30, 0, 0, 3));
    }

    private static int price(int kind, int length, int amps) {
        FieldPitches x = new FieldPitches();
        x.party(kind, 100 * length + amps, 0, 1);
        return x.says(0, 0);
    }

    private static void price() {
        int[] least = {11, 8, 11, 22, 8};
        int[] most = {40, 37, 104, 208, 70};
        int[] long1 = {40, 37, 40, 80, 27};
        int[] amps1 = {11, 8, 13, 26, 9};
        for (int kind = 0; kind <= 4; kind++) {
            Due.due("1: the least PRICE of kind " + kind, price(kind, 1, 0), least[kind]);
            Due.due("1: the greatest PRICE of kind " + kind, price(kind, 30, 32), most[kind]);
            Due.due("1: PRICE by LENGTH of kind " + kind, price(kind, 30, 0), long1[kind]);
            Due.due("1: PRICE by 1 AMP of kind " + kind, price(kind, 1, 1), amps1[kind]);
        }
    }

    private static void priceOfSeasonIsCut() {
        Due.due("1: 12 less a third", price(4, 2, 0), 8);
        Due.due("1: 13 less a third, cut", price(4, 3, 0), 9);
        Due.due("1: 14 less a third, cut", price(4, 4, 0), 10);
        Due.due("1: 15 less a third", price(4, 5, 0), 10);
    }

    /** NIGHTS 10 to 12 are taken: which stays can be put there. */
    private static void free() {
        int[][] taken = {{9, 2}, {10, 1}, {11, 1}, {12, 1}, {12, 2}, {9, 5}, {10, 3}, {1, 30}};
        int[][] free = {{9, 1}, {13, 1}, {1, 9}, {13, 30}};
        for (int[] stay : taken) {
            Due.due("1: not FREE " + stay[0], putBeside(stay), Due.NONE);
        }
        for (int[] stay : free) {
            Due.due("1: FREE " + stay[0], putBeside(stay), -1);
        }
        FieldPitches x = Edge.plain(2);
        Edge.on(x, 0, 10, 3);
        x.party(0, 100, 0, 1003);
        x.party(0, 100, 0, 1003);
        Due.due("1: another PITCH is FREE", x.put(1, 1), -1);
        x.cancel(1);
        Due.due("1: FREE of one that was CANCELLED", x.put(2, 1), -1);
    }

    private static int putBeside(int[] stay) {
        FieldPitches x = Edge.plain(1);
        Edge.on(x, 0, 10, 3);
        int party = x.party(0, 100, 0, 100 * stay[0] + stay[1]);
        return x.put(party, 0);
    }

    private static int gapsBetween(int[] one, int[] other) {
        FieldPitches x = Edge.plain(1);
        Edge.on(x, 0, one[0], one[1]);
        Edge.on(x, 0, other[0], other[1]);
        return x.gaps(0);
    }

    private static void gaps() {
        for (int night = 1; night <= 98; night++) {
            Due.due("1: a GAP in NIGHT " + night, gapsBetween(of(night - 1, 1), of(night + 1, 1)), 1);
        }
        Due.due("1: a GAP between long stays", gapsBetween(of(0, 30), of(31, 30)), 1);
    }

    private static void noGaps() {
        for (int night = 0; night <= 96; night++) {
            Due.due("1: two NIGHTS are no GAPS: " + night, gapsBetween(of(night, 1), of(night + 3, 1)), 0);
        }
        for (int night = 0; night <= 98; night++) {
            Due.due("1: side by side: " + night, gapsBetween(of(night, 1), of(night + 1, 1)), 0);
        }
        FieldPitches first = Edge.plain(1);
        Edge.on(first, 0, 1, 30);
        Due.due("1: NIGHT 0 is none", first.gaps(0), 0);
        FieldPitches last = Edge.plain(1);
        Edge.on(last, 0, 98, 1);
        Due.due("1: NIGHT 99 is none", last.gaps(0), 0);
        Edge.on(last, 0, 1, 1);
        Due.due("1: neither is", last.gaps(-1), 0);
        Due.due("1: no PITCHES", new FieldPitches().gaps(-1), 0);
    }
}
