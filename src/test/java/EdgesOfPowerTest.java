/** The boundary cases of the Terms, 4 (power, storms), and of promises 25 to 31, sentence by sentence. */
final class EdgesOfPowerTest {
    private EdgesOfPowerTest() {
    }

    public static void main(String[] args) {
        here();
        usesNoneAtFirst();
        use();
        useInPlace();
        loadOfPost();
        mostLoad();
        loadOfThoseHere();
        load();
        limitAtFirst();
        limit();
        trips();
        tripsFindings();
        mayFindings();
        mayOrder();
        mayHours();
        mayNone();
        mayAmps();
        mayChangesNothing();
        wet();
        wetHeights();
        rescueFindings();
        rescueHeights();
        rescueFree();
        rescueFits();
        rescueOneEach();
        rescueMost();
        rescueFirst();
        rescueToFirstAndLast();
        rescueChain();
        rescueNowhere();
        rescueOfFewer();
        rescueGreatest();
        Due.end();
    }

    /** A PARTY ON PITCH 0 in NIGHTS 5 to 7, seen in some NIGHT. */
    private static FieldPitches stay(int today) {
        FieldPitches x = Edge.plain(1);
        Edge.on(x, 0, 5, 3);
        x.use(0, 1, 40);
        return Edge.until(x, today);
    }

    private static void here() {
        int[] nights = {4, 5, 6, 7, 8, 99};
        int[] due = {0, 1, 1, 1, 0, 0};
        for (int i = 0; i < nights.length; i++) {
            FieldPitches x = stay(nights[i]);
            Due.due("4: HERE in NIGHT " + nights[i], x.count(6), due[i]);
            Due.due("4: LOAD in NIGHT " + nights[i], x.load(0, 0), 40 * due[i]);
            Due.due("4: TRIPS in NIGHT " + nights[i], x.trips(0), due[i]);
            Due.due("4: WET in NIGHT " + nights[i], x.wet(1), due[i]);
            Due.due("4: may in NIGHT " + nights[i], x.may(0, 1, 1, 0), due[i] == 1 ? 1 : Due.STATE);
        }
        FieldPitches y = Edge.plain(1);
        y.party(0, 100, 0, 1);
        Due.due("4: one that waits isn't HERE", y.count(6), 0);
        y.put(0, 0);
        Due.due("4: ON a PITCH it is", y.count(6), 1);
        FieldPitches z = Edge.plain(1);
        Edge.on(z, 0, 1, 1);
        z.cancel(0);
        z.nights(1);
        Due.due("4: one that was CANCELLED isn't HERE", z.count(6), 0);
    }

    private static void usesNoneAtFirst() {
        FieldPitches x = Edge.plain(1);
        Edge.on(x, 0, 0, 1);
        x.limit(0, 0);
        Due.due("4: at first none", x.trips(0), 0);
        for (int hour = 0; hour <= 23; hour++) {
            Due.due("4: at first none", x.load(0, hour), 0);
        }
    }

    private static void use() {
        Edge.range("25: party", Edge::busy, (x, v) -> x.use(v, 1, 1), 0, 6);
        Edge.range("25: hours", Edge::busy, (x, v) -> x.use(3, v, 1), 0, 16777215);
        Edge.range("25: amps", Edge::busy, (x, v) -> x.use(3, 1, v), 0, 40);
        Edge.refused("25: no PARTIES", FieldPitches::new, x -> x.use(0, 0, 0), Due.BEYOND);
        Edge.answers("25: one that was CANCELLED", Edge::busy, x -> x.use(5, 1, 1), 1);
        Edge.answers("25: one that isn't HERE", Edge::busy, x -> x.use(1, 1, 1), 1);
        FieldPitches y = stay(5);
        y.use(0, 16777215, 40);
        Due.due("25: in all HOURS", y.trips(0), 16777215);
        y.use(0, 1 << 23, 40);
        Due.due("25: in HOUR 23", y.trips(0), 1 << 23);
        y.use(0, 16777215, 0);
        Due.due("25: 0 AMPS", y.load(0, 12), 0);
    }

    private static void useInPlace() {
        FieldPitches x = stay(5);
        x.use(0, 2, 30);
        Due.due("25: in place of what it used", x.load(0, 0), 0);
        Due.due("25: what it uses", x.load(0, 1), 30);
        x.use(0, 0, 40);
        Due.due("25: in no HOURS", x.load(0, 1), 0);
    }

    private static void loadOfPost() {
        FieldPitches x = new FieldPitches();
        for (int post = 0; post < 4; post++) {
            x.pitch(0, 3000, 0, post);
            Edge.on(x, post, 0, 1);
            x.use(post, 1 << post, 10 + post);
        }
        for (int post = 0; post < 4; post++) {
            for (int hour = 0; hour < 24; hour++) {
                Due.due("4: LOAD of a POST in an HOUR", x.load(post, hour), post == hour ? 10 + post : 0);
            }
        }
    }

    private static void mostLoad() {
        FieldPitches x = Edge.plain(12);
        for (int p = 0; p < 12; p++) {
            Edge.on(x, p, 0, 1);
            x.use(p, 1 << 23, 40);
        }
        x.limit(0, 200);
        Due.due("4: the most LOAD", x.load(0, 23), 480);
        Due.due("4: the HOUR ahead", x.load(0, 22), 0);
        Due.due("4: it TRIPS", x.trips(0), 1 << 23);
    }

    private static void loadOfThoseHere() {
        FieldPitches x = Edge.plain(3);
        Edge.on(x, 0, 0, 2);
        Edge.on(x, 1, 1, 1);
        x.party(0, 100, 0, 5);
        for (int p = 0; p < 3; p++) {
            x.use(p, 1, 10 + p);
        }
        Due.due("27: the first", x.load(0, 0), 10);
        x.nights(1);
        Due.due("27: both", x.load(0, 0), 21);
        x.nights(1);
        Due.due("27: none", x.load(0, 0), 0);
        x.put(2, 2);
        Due.due("27: one that waited", x.load(0, 0), 12);
    }

    private static void load() {
        Edge.range("27: post", Edge::busy, (x, v) -> x.load(v, 0), 0, 3);
        Edge.range("27: hour", Edge::busy, (x, v) -> x.load(0, v), 0, 23);
        Edge.unchanged("27: load", Edge::busy, x -> x.load(1, 5));
        Edge.answers("27: without PITCHES", FieldPitches::new, x -> x.load(3, 23), 0);
    }

    private static void limitAtFirst() {
        for (int post = 0; post < 4; post++) {
            int p = post;
            Edge.answers("4: LIMIT, 32 at first", FieldPitches::new, x -> x.limit(p, 200), 32);
        }
        FieldPitches x = stay(5);
        x.use(0, 1, 32);
        Due.due("4: LOAD 32 doesn't TRIP at first", x.trips(0), 0);
        x.use(0, 1, 33);
        Due.due("4: LOAD 33 does", x.trips(0), 1);
    }

    private static void limit() {
        Edge.range("26: post", Edge::busy, (x, v) -> x.limit(v, 1), 0, 3);
        Edge.range("26: v", Edge::busy, (x, v) -> x.limit(2, v), 0, 200);
        FieldPitches x = new FieldPitches();
        x.limit(3, 200);
        Due.due("26: it was 200", x.limit(3, 0), 200);
        Due.due("26: it was 0", x.limit(3, 1), 0);
        Due.due("26: another one", x.limit(2, 1), 32);
    }

    private static void trips() {
        int[] limits = {0, 39, 40, 41, 200};
        int[] due = {1, 1, 0, 0, 0};
        for (int i = 0; i < limits.length; i++) {
            FieldPitches x = stay(5);
            x.limit(0, limits[i]);
            Due.due("4: LOAD 40 with LIMIT " + limits[i], x.trips(0), due[i]);
        }
        FieldPitches x = stay(5);
        x.limit(0, 0);
        x.use(0, 16777215, 0);
        Due.due("4: LOAD 0 with LIMIT 0", x.trips(0), 0);
        x.use(0, 16777215, 1);
        Due.due("4: LOAD 1 with LIMIT 0", x.trips(0), 16777215);
    }

    private static void tripsFindings() {
        Edge.range("28: post", Edge::busy, (x, v) -> x.trips(v), 0, 3);
        Edge.unchanged("28: trips", Edge::busy, x -> x.trips(1));
        Edge.answers("28: no HOURS", FieldPitches::new, x -> x.trips(0), 0);
    }

    private static void mayFindings() {
        Edge.refused("29: party -1", Edge::busy, x -> x.may(-1, 0, 1, 0), Due.BEYOND);
        Edge.refused("29: party 7", Edge::busy, x -> x.may(7, 0, 1, 0), Due.BEYOND);
        Edge.refused("29: a great party", Edge::busy, x -> x.may(Integer.MAX_VALUE, 0, 1, 0), Due.BEYOND);
        Edge.refused("29: a low party", Edge::busy, x -> x.may(Integer.MIN_VALUE, 0, 1, 0), Due.BEYOND);
        Edge.range("29: hour", Edge::busy, (x, v) -> x.may(3, v, 1, 0), 0, 23);
        Edge.range("29: n", () -> withLimit(stay(5), 200), (x, v) -> x.may(0, 0, v, 0), 1, 24);
        Edge.range("29: amps", () -> withLimit(stay(5), 200), (x, v) -> x.may(0, 0, 1, v), 0, 40);
        for (int party : new int[] {0, 1, 2, 4, 5, 6}) {
            Edge.refused("29: it isn't HERE: " + party, Edge::busy, x -> x.may(party, 0, 1, 0), Due.STATE);
        }
    }

    private static FieldPitches withLimit(FieldPitches x, int limit) {
        x.limit(0, limit);
        return x;
    }

    private static void mayOrder() {
        Edge.refused("29: BEYOND ahead of STATE, hour", Edge::busy, x -> x.may(5, 24, 1, 0), Due.BEYOND);
        Edge.refused("29: BEYOND ahead of STATE, n", Edge::busy, x -> x.may(5, 0, 0, 0), Due.BEYOND);
        Edge.refused("29: BEYOND ahead of STATE, amps", Edge::busy, x -> x.may(5, 0, 1, 41), Due.BEYOND);
        Edge.refused("29: BEYOND ahead of NONE", Edge::busy, x -> x.may(3, 23, 25, 0), Due.BEYOND);
        Edge.refused("29: STATE ahead of NONE", Edge::busy, x -> x.may(6, 23, 2, 0), Due.STATE);
        Edge.refused("29: NONE", Edge::busy, x -> x.may(3, 23, 2, 0), Due.NONE);
    }

    /** HOURS 4 to 7 are used with 20 of LIMIT 19 there. */
    private static void mayHours() {
        Edge.answers("29: from 0 on, 4", Edge::busy, x -> x.may(3, 0, 4, 19), 0);
        Edge.answers("29: from 0 on, 5", Edge::busy, x -> x.may(3, 0, 5, 19), 8);
        Edge.answers("29: from 1 on, 4", Edge::busy, x -> x.may(3, 1, 4, 19), 8);
        Edge.answers("29: from 3 on, 1", Edge::busy, x -> x.may(3, 3, 1, 19), 3);
        Edge.answers("29: from 4 on, 1", Edge::busy, x -> x.may(3, 4, 1, 0), 8);
        Edge.answers("29: from 7 on, 1", Edge::busy, x -> x.may(3, 7, 1, 0), 8);
        Edge.answers("29: from 8 on, 16", Edge::busy, x -> x.may(3, 8, 16, 19), 8);
        Edge.answers("29: the last HOUR", Edge::busy, x -> x.may(3, 23, 1, 19), 23);
        Edge.answers("29: all HOURS", () -> withLimit(stay(5), 40), x -> x.may(0, 0, 24, 0), 0);
    }

    private static void mayNone() {
        Edge.refused("29: from 8 on, 17", Edge::busy, x -> x.may(3, 8, 17, 0), Due.NONE);
        Edge.refused("29: from 9 on, 16", Edge::busy, x -> x.may(3, 9, 16, 0), Due.NONE);
        Edge.refused("29: from 0 on, 17", Edge::busy, x -> x.may(3, 0, 17, 0), Due.NONE);
        Edge.refused("29: all of them 23 at most", Edge::busy, x -> x.may(3, 23, 2, 0), Due.NONE);
        Edge.refused("29: all of them 23 at most", () -> withLimit(stay(5), 40), x -> x.may(0, 1, 24, 0), Due.NONE);
        Edge.refused("29: too many AMPS", Edge::busy, x -> x.may(3, 0, 1, 20), Due.NONE);
    }

    private static void mayAmps() {
        FieldPitches x = stay(5);
        x.use(0, 16777215, 20);
        x.limit(0, 60);
        Due.due("29: 40 more, as much as LIMIT", x.may(0, 0, 24, 40), 0);
        x.limit(0, 59);
        Due.due("29: 40 more, 1 above LIMIT", x.may(0, 0, 1, 40), Due.NONE);
        x.limit(0, 20);
        Due.due("29: 0 more, as much as LIMIT", x.may(0, 0, 24, 0), 0);
        x.limit(0, 19);
        Due.due("29: 0 more, it TRIPS already", x.may(0, 0, 1, 0), Due.NONE);
    }

    private static void mayChangesNothing() {
        Edge.unchanged("29: may", Edge::busy, x -> x.may(3, 0, 1, 10));
    }

    private static void wet() {
        Edge.range("30: water", Edge::busy, (x, v) -> x.wet(v), 0, 99);
        Edge.unchanged("30: wet", Edge::busy, x -> x.wet(99));
        Edge.answers("30: without PARTIES", FieldPitches::new, x -> x.wet(99), 0);
        FieldPitches x = Edge.plain(12);
        for (int p = 0; p < 23; p++) {
            x.party(0, 100, 0, 101);
        }
        Edge.on(x, 11, 0, 1);
        Due.due("30: the 24th PARTY", x.wet(1), 1 << 23);
    }

    private static void wetHeights() {
        FieldPitches x = new FieldPitches();
        int[] heights = {0, 1, 50, 98, 99};
        for (int p = 0; p < heights.length; p++) {
            x.pitch(0, 3000 + heights[p], 0, 0);
            Edge.on(x, p, 0, 1);
        }
        int[] waters = {0, 1, 2, 50, 51, 98, 99};
        int[] due = {0, 1, 3, 3, 7, 7, 15};
        for (int i = 0; i < waters.length; i++) {
            Due.due("4: a HEIGHT below the water's: " + waters[i], x.wet(waters[i]), due[i]);
        }
    }

    /** A PITCH with some LENGTH and HEIGHT. */
    private static void place(FieldPitches x, int length, int height) {
        x.pitch(0, 100 * length + height, 32, 70);
    }

    private static void rescueFindings() {
        Edge.range("31: water", Edge::busy, (x, v) -> x.rescue(v, -1), 0, 99);
        Edge.refused("31: party -2", Edge::busy, x -> x.rescue(21, -2), Due.BEYOND);
        Edge.refused("31: party 7", Edge::busy, x -> x.rescue(21, 7), Due.BEYOND);
        Edge.refused("31: the least party", Edge::busy, x -> x.rescue(21, Integer.MIN_VALUE), Due.BEYOND);
        Edge.refused("31: the greatest party", Edge::busy, x -> x.rescue(21, Integer.MAX_VALUE), Due.BEYOND);
        Edge.refused("31: BEYOND ahead of NONE", Edge::busy, x -> x.rescue(100, 0), Due.BEYOND);
        Edge.refused("31: it isn't WET", Edge::busy, x -> x.rescue(20, 3), Due.NONE);
        Edge.refused("31: it goes nowhere", Edge::busy, x -> x.rescue(21, 3), Due.NONE);
        Edge.refused("31: it isn't HERE", Edge::busy, x -> x.rescue(21, 1), Due.NONE);
        Edge.refused("31: it was CANCELLED", Edge::busy, x -> x.rescue(21, 5), Due.NONE);
        Edge.answers("31: nobody is moved", Edge::busy, x -> x.rescue(21, -1), 0);
        Edge.answers("31: without PARTIES", FieldPitches::new, x -> x.rescue(99, -1), 0);
        Edge.answers("31: 24 that aren't HERE", Edge::full, x -> x.rescue(99, -1), 0);
        Edge.refused("31: the last of 24", Edge::full, x -> x.rescue(99, 23), Due.NONE);
        Edge.refused("31: without PARTIES", FieldPitches::new, x -> x.rescue(99, 0), Due.BEYOND);
    }

    private static FieldPitches storm() {
        FieldPitches x = new FieldPitches();
        place(x, 10, 10);
        place(x, 10, 49);
        place(x, 10, 50);
        place(x, 10, 99);
        Edge.on(x, 0, 0, 1);
        return x;
    }

    private static void rescueHeights() {
        Edge.answers("4: a HEIGHT of at least the water's", EdgesOfPowerTest::storm, x -> x.rescue(49, 0), 1);
        Edge.answers("4: 1 more", EdgesOfPowerTest::storm, x -> x.rescue(50, 0), 2);
        Edge.answers("4: 1 more", EdgesOfPowerTest::storm, x -> x.rescue(51, 0), 3);
        Edge.answers("4: the greatest", EdgesOfPowerTest::storm, x -> x.rescue(99, 0), 3);
        Edge.answers("4: WET from 11 on", EdgesOfPowerTest::storm, x -> x.rescue(11, 0), 1);
        Edge.refused("4: not from 10 on", EdgesOfPowerTest::storm, x -> x.rescue(10, 0), Due.NONE);
        Edge.unchanged("31: nobody is moved by that", EdgesOfPowerTest::storm, x -> x.rescue(50, 0));
        Edge.unchanged("31: nobody is moved by that", EdgesOfPowerTest::storm, x -> x.rescue(50, -1));
    }

    /** One is ON PITCH 1 in some NIGHTS while another is WET in NIGHT 5. */
    private static int whileThere(int first, int nights) {
        FieldPitches x = storm();
        Edge.on(x, 1, first, nights);
        Edge.on(x, 0, 5, 1);
        Edge.until(x, 5);
        return x.rescue(49, 2);
    }

    private static void rescueFree() {
        Due.due("4: one is HERE there", whileThere(5, 1), 2);
        Due.due("4: its last NIGHT", whileThere(3, 3), 2);
        Due.due("4: its first NIGHT", whileThere(5, 9), 2);
        Due.due("4: one went yesterday", whileThere(3, 2), 1);
        Due.due("4: one comes tomorrow", whileThere(6, 1), 1);
    }

    private static void rescueFits() {
        FieldPitches x = new FieldPitches();
        place(x, 10, 0);
        place(x, 9, 9);
        place(x, 10, 9);
        x.party(0, 1000, 0, 1);
        x.put(0, 0);
        Due.due("4: it FITS with as great a LENGTH", x.rescue(9, 0), 2);
        FieldPitches y = new FieldPitches();
        place(y, 10, 0);
        place(y, 9, 9);
        y.party(0, 1000, 0, 1);
        y.put(0, 0);
        Due.due("4: it FITS none", y.rescue(9, 0), Due.NONE);
        Due.due("4: none is moved", y.rescue(9, -1), 0);
    }

    private static void rescueOneEach() {
        FieldPitches x = new FieldPitches();
        place(x, 10, 0);
        place(x, 10, 0);
        place(x, 10, 9);
        Edge.on(x, 0, 0, 1);
        Edge.on(x, 1, 0, 1);
        Due.due("4: one on each at most", x.rescue(9, -1), 1);
        Due.due("4: the first", x.rescue(9, 0), 2);
        Due.due("4: none behind all", x.rescue(9, 1), Due.NONE);
    }

    private static void rescueMost() {
        FieldPitches x = new FieldPitches();
        place(x, 10, 0);
        place(x, 10, 0);
        place(x, 10, 9);
        place(x, 5, 9);
        x.party(0, 500, 0, 1);
        x.party(0, 600, 0, 1);
        x.put(0, 0);
        x.put(1, 1);
        Due.due("4: as many as can be", x.rescue(9, -1), 2);
        Due.due("4: so the first leaves 2", x.rescue(9, 0), 3);
        Due.due("4: to the second", x.rescue(9, 1), 2);
    }

    private static void rescueFirst() {
        FieldPitches x = new FieldPitches();
        place(x, 10, 0);
        place(x, 10, 0);
        place(x, 10, 9);
        place(x, 10, 9);
        Edge.on(x, 1, 0, 1);
        Edge.on(x, 0, 0, 1);
        Due.due("4: by PARTIES, each the least PITCH", x.rescue(9, 0), 2);
        Due.due("4: the second", x.rescue(9, 1), 3);
    }

    /** PITCHES 0 and 11 are like others. */
    private static void rescueToFirstAndLast() {
        FieldPitches x = new FieldPitches();
        for (int p = 0; p < 12; p++) {
            place(x, 10, p == 0 || p == 11 ? 50 : 0);
        }
        for (int p = 1; p <= 3; p++) {
            Edge.on(x, p, 0, 1);
        }
        Due.due("4: two PITCHES for three", x.rescue(50, -1), 2);
        Due.due("4: PITCH 0", x.rescue(50, 0), 0);
        Due.due("4: PITCH 11", x.rescue(50, 1), 11);
        Due.due("4: none", x.rescue(50, 2), Due.NONE);
        Edge.on(x, 11, 0, 1);
        Due.due("4: PITCH 0 alone", x.rescue(50, -1), 1);
        Due.due("4: it is given once", x.rescue(50, 1), Due.NONE);
    }

    /** PITCHES 6 to 11 have LENGTHS 6 down to 1, PARTIES 0 to 5 have LENGTHS 1 up to 6: each must leave its first one. */
    private static void rescueChain() {
        FieldPitches x = new FieldPitches();
        for (int p = 0; p < 12; p++) {
            place(x, p < 6 ? 30 : 12 - p, p < 6 ? 0 : 9);
        }
        for (int p = 0; p < 6; p++) {
            x.party(0, 100 * (p + 1), 0, 1);
            x.put(p, p);
        }
        Due.due("4: as many as can be", x.rescue(9, -1), 6);
        for (int p = 0; p < 6; p++) {
            Due.due("4: PARTY " + p, x.rescue(9, p), 11 - p);
        }
    }

    private static void rescueNowhere() {
        FieldPitches x = new FieldPitches();
        place(x, 10, 0);
        place(x, 10, 0);
        place(x, 10, 0);
        place(x, 5, 9);
        place(x, 4, 9);
        int[] lengths = {6, 5, 4};
        for (int p = 0; p < 3; p++) {
            x.party(0, 100 * lengths[p], 0, 1);
            x.put(p, p);
        }
        Due.due("4: one FITS none, two are moved", x.rescue(9, -1), 2);
        Due.due("4: the first goes nowhere", x.rescue(9, 0), Due.NONE);
        Due.due("4: the second goes", x.rescue(9, 1), 3);
        Due.due("4: the third goes", x.rescue(9, 2), 4);
    }

    /** What one water asked for isn't left over to another. */
    private static void rescueOfFewer() {
        FieldPitches x = new FieldPitches();
        place(x, 10, 0);
        place(x, 10, 5);
        place(x, 10, 50);
        place(x, 10, 50);
        Edge.on(x, 0, 0, 1);
        Edge.on(x, 1, 0, 1);
        Due.due("4: two are WET", x.rescue(50, -1), 2);
        Due.due("4: one is WET", x.rescue(3, -1), 1);
        Due.due("4: none is WET", x.rescue(0, -1), 0);
        Due.due("4: it isn't WET now", x.rescue(3, 1), Due.NONE);
        Due.due("4: two are WET again", x.rescue(6, -1), 2);
    }

    private static void rescueGreatest() {
        FieldPitches x = new FieldPitches();
        for (int p = 0; p < 12; p++) {
            place(x, 10, p < 6 ? 0 : 99);
        }
        for (int p = 0; p < 6; p++) {
            Edge.on(x, p, 0, 1);
        }
        Due.due("4: 6 of 12", x.rescue(99, -1), 6);
        for (int p = 0; p < 6; p++) {
            Due.due("4: each the least", x.rescue(99, p), 6 + p);
        }
        FieldPitches y = Edge.plain(12);
        for (int p = 0; p < 12; p++) {
            Edge.on(y, p, 0, 1);
        }
        Due.due("4: all are WET", y.wet(1), 4095);
        Due.due("4: nobody can go", y.rescue(1, -1), 0);
    }
}
