/** Promises 25 to 31: power, storms. */
final class PowerTest {
    private PowerTest() {
    }

    public static void main(String[] args) {
        use();
        limit();
        load();
        trips();
        may();
        wet();
        rescue();
        rescueMost();
        rescueToFirst();
        rescueFits();
        Due.end();
    }

    /** A pitch of some height at a post. */
    private static void level(FieldPitches x, int length, int height, int post) {
        x.pitch(0, 100 * length + height, 32, 70 + post);
    }

    /** A party that comes to be on a pitch. */
    private static int on(FieldPitches x, int length, int stay, int pitch) {
        int party = x.party(0, 100 * length, 0, stay);
        Due.due("put", x.put(party, pitch), -1);
        return party;
    }

    private static void use() {
        FieldPitches x = new FieldPitches();
        level(x, 10, 0, 1);
        on(x, 1, 3, 0);
        Due.due("25 at first none", x.trips(1), 0);
        Due.due("25 use", x.use(0, 16777215, 40), 1);
        Due.due("25 in place of it", x.use(0, 1 << 23 | 1, 33), 1);
        Due.due("25 hours", x.trips(1), 1 << 23 | 1);
        Due.due("25 amps", x.load(1, 23), 33);
        Due.due("25 hours -1", x.use(0, -1, 1), Due.BEYOND);
        Due.due("25 hours above", x.use(0, 16777216, 1), Due.BEYOND);
        Due.due("25 amps -1", x.use(0, 1, -1), Due.BEYOND);
        Due.due("25 amps 41", x.use(0, 1, 41), Due.BEYOND);
        Due.due("25 party 1", x.use(1, 1, 1), Due.BEYOND);
        Due.due("25 party -1", x.use(-1, 1, 1), Due.BEYOND);
        Due.due("25 nothing changed", x.load(1, 23), 33);
        Due.due("25 none", x.use(0, 0, 0), 1);
        Due.due("25 none", x.load(1, 23), 0);
        x.party(0, 100, 0, 101);
        x.cancel(1);
        Due.due("25 one that was cancelled", x.use(1, 1, 1), 1);
    }

    private static void limit() {
        FieldPitches x = new FieldPitches();
        Due.due("26 at first", x.limit(3, 200), 32);
        Due.due("26 then", x.limit(3, 0), 200);
        Due.due("26 201", x.limit(3, 201), Due.BEYOND);
        Due.due("26 -1", x.limit(3, -1), Due.BEYOND);
        Due.due("26 post 4", x.limit(4, 0), Due.BEYOND);
        Due.due("26 post -1", x.limit(-1, 0), Due.BEYOND);
        Due.due("26 then", x.limit(3, 5), 0);
        Due.due("26 another", x.limit(0, 5), 32);
    }

    private static void load() {
        FieldPitches x = new FieldPitches();
        level(x, 10, 0, 2);
        level(x, 10, 0, 2);
        level(x, 10, 0, 3);
        on(x, 1, 2, 0);
        on(x, 1, 102, 1);
        on(x, 1, 3, 2);
        x.party(0, 100, 0, 5);
        x.use(0, 6, 10);
        x.use(1, 12, 20);
        x.use(2, 15, 7);
        x.use(3, 15, 40);
        Due.due("27 the second isn't here", x.load(2, 2), 10);
        x.nights(1);
        Due.due("27 the first alone", x.load(2, 1), 10);
        Due.due("27 both", x.load(2, 2), 30);
        Due.due("27 the second alone", x.load(2, 3), 20);
        Due.due("27 none", x.load(2, 0), 0);
        Due.due("27 another post", x.load(3, 2), 7);
        Due.due("27 no pitch has it", x.load(0, 2), 0);
        x.nights(1);
        Due.due("27 the first went", x.load(2, 2), 20);
        Due.due("27 post 4", x.load(4, 0), Due.BEYOND);
        Due.due("27 post -1", x.load(-1, 0), Due.BEYOND);
        Due.due("27 hour 24", x.load(0, 24), Due.BEYOND);
        Due.due("27 hour -1", x.load(0, -1), Due.BEYOND);
    }

    private static void trips() {
        FieldPitches x = new FieldPitches();
        level(x, 10, 0, 0);
        level(x, 10, 0, 0);
        on(x, 1, 2, 0);
        on(x, 1, 2, 1);
        x.use(0, 7, 16);
        x.use(1, 6, 16);
        Due.due("28 as much as the limit", x.trips(0), 0);
        x.limit(0, 31);
        Due.due("28 more", x.trips(0), 6);
        x.limit(0, 15);
        Due.due("28 in more hours", x.trips(0), 7);
        x.limit(0, 0);
        Due.due("28 limit 0", x.trips(0), 7);
        Due.due("28 another", x.trips(1), 0);
        Due.due("28 the last", x.trips(3), 0);
        Due.due("28 post 4", x.trips(4), Due.BEYOND);
        Due.due("28 post -1", x.trips(-1), Due.BEYOND);
    }

    private static void may() {
        FieldPitches x = new FieldPitches();
        level(x, 10, 0, 1);
        level(x, 10, 0, 1);
        on(x, 1, 2, 0);
        on(x, 1, 102, 1);
        x.party(0, 100, 0, 2);
        x.use(0, 0xF0F0F0, 20);
        Due.due("29 three hours", x.may(0, 0, 3, 13), 0);
        Due.due("29 from 2 on", x.may(0, 2, 3, 13), 8);
        Due.due("29 from 2 on, two", x.may(0, 2, 2, 13), 2);
        Due.due("29 just as much", x.may(0, 2, 3, 12), 2);
        Due.due("29 five hours", x.may(0, 0, 5, 13), Due.NONE);
        Due.due("29 in none", x.may(0, 0, 1, 33), Due.NONE);
        Due.due("29 from 20 on", x.may(0, 20, 1, 13), Due.NONE);
        Due.due("29 23 at most", x.may(0, 23, 2, 0), Due.NONE);
        Due.due("29 the last one", x.may(0, 23, 1, 12), 23);
        Due.due("29 the whole day", x.may(0, 0, 24, 12), 0);
        Due.due("29 the whole day", x.may(0, 1, 24, 0), Due.NONE);
        x.limit(1, 19);
        Due.due("29 with 0 more", x.may(0, 4, 1, 0), 8);
        Due.due("29 it waits", x.may(2, 0, 1, 0), Due.STATE);
        Due.due("29 it isn't here yet", x.may(1, 0, 1, 0), Due.STATE);
        Due.due("29 state ahead of none", x.may(1, 0, 1, 40), Due.STATE);
        Due.due("29 hour 24", x.may(0, 24, 1, 0), Due.BEYOND);
        Due.due("29 hour -1", x.may(0, -1, 1, 0), Due.BEYOND);
        Due.due("29 n 0", x.may(0, 0, 0, 0), Due.BEYOND);
        Due.due("29 n 25", x.may(0, 0, 25, 0), Due.BEYOND);
        Due.due("29 amps 41", x.may(0, 0, 1, 41), Due.BEYOND);
        Due.due("29 amps -1", x.may(0, 0, 1, -1), Due.BEYOND);
        Due.due("29 party 3", x.may(3, 0, 1, 0), Due.BEYOND);
        Due.due("29 party -1", x.may(-1, 0, 1, 0), Due.BEYOND);
        Due.due("29 beyond ahead of state", x.may(2, 24, 1, 0), Due.BEYOND);
        x.nights(2);
        Due.due("29 it isn't here any more", x.may(0, 0, 1, 0), Due.STATE);
        Due.due("29 the other is here, alone", x.may(1, 0, 24, 19), 0);
    }

    private static void wet() {
        FieldPitches x = new FieldPitches();
        level(x, 10, 0, 0);
        level(x, 10, 50, 0);
        level(x, 10, 99, 0);
        on(x, 1, 2, 0);
        on(x, 1, 102, 0 + 1);
        on(x, 1, 2, 2);
        on(x, 1, 1, 1);
        x.party(0, 100, 0, 2);
        Due.due("30 0", x.wet(0), 0);
        Due.due("30 1", x.wet(1), 1);
        Due.due("30 50", x.wet(50), 1);
        Due.due("30 51", x.wet(51), 9);
        Due.due("30 99", x.wet(99), 9);
        Due.due("30 100", x.wet(100), Due.BEYOND);
        Due.due("30 -1", x.wet(-1), Due.BEYOND);
        x.nights(1);
        Due.due("30 another day", x.wet(51), 3);
    }

    private static void rescue() {
        FieldPitches x = new FieldPitches();
        level(x, 10, 5, 0);
        level(x, 10, 5, 0);
        level(x, 10, 20, 0);
        level(x, 10, 30, 0);
        level(x, 10, 40, 0);
        on(x, 1, 2, 0);
        on(x, 1, 2, 1);
        on(x, 1, 2, 2);
        on(x, 1, 201, 3);
        Due.due("31 nobody is wet", x.rescue(5, -1), 0);
        Due.due("31 isn't wet", x.rescue(5, 0), Due.NONE);
        Due.due("31 both", x.rescue(20, -1), 2);
        Due.due("31 nobody is here on 3", x.rescue(20, 0), 3);
        Due.due("31 the next", x.rescue(20, 1), 4);
        Due.due("31 it isn't wet", x.rescue(20, 2), Due.NONE);
        Due.due("31 three for two", x.rescue(30, -1), 2);
        Due.due("31 the last goes nowhere", x.rescue(30, 2), Due.NONE);
        Due.due("31 three for one", x.rescue(31, -1), 1);
        Due.due("31 the first goes", x.rescue(31, 0), 4);
        Due.due("31 the second goes nowhere", x.rescue(31, 1), Due.NONE);
        Due.due("31 nobody goes", x.rescue(99, -1), 0);
        Due.due("31 nowhere", x.rescue(99, 0), Due.NONE);
        Due.due("31 nobody is moved by that", x.partyOf(0, 6), 0);
        Due.due("31 water 100", x.rescue(100, 0), Due.BEYOND);
        Due.due("31 water -1", x.rescue(-1, 0), Due.BEYOND);
        Due.due("31 party 4", x.rescue(20, 4), Due.BEYOND);
        Due.due("31 party -2", x.rescue(20, -2), Due.BEYOND);
    }

    private static void rescueMost() {
        FieldPitches x = new FieldPitches();
        level(x, 10, 0, 0);
        level(x, 10, 0, 0);
        level(x, 10, 0, 0);
        level(x, 3, 9, 0);
        level(x, 2, 9, 0);
        level(x, 1, 9, 0);
        on(x, 1, 2, 0);
        on(x, 2, 2, 1);
        on(x, 3, 2, 2);
        Due.due("31 as many as can be", x.rescue(9, -1), 3);
        Due.due("31 the first leaves the others theirs", x.rescue(9, 0), 5);
        Due.due("31 the second", x.rescue(9, 1), 4);
        Due.due("31 the third", x.rescue(9, 2), 3);
        FieldPitches y = new FieldPitches();
        level(y, 10, 0, 0);
        level(y, 10, 0, 0);
        level(y, 2, 9, 0);
        level(y, 1, 9, 0);
        on(y, 2, 2, 0);
        on(y, 1, 2, 1);
        Due.due("31 by parties, not by pitches", y.rescue(9, 0), 2);
        Due.due("31 the other", y.rescue(9, 1), 3);
        FieldPitches z = new FieldPitches();
        level(z, 10, 0, 0);
        level(z, 10, 0, 0);
        level(z, 2, 9, 0);
        on(z, 3, 2, 0);
        on(z, 1, 2, 1);
        Due.due("31 one fits nowhere", z.rescue(9, -1), 1);
        Due.due("31 one fits nowhere", z.rescue(9, 0), Due.NONE);
        Due.due("31 so the other goes", z.rescue(9, 1), 2);
    }

    /** PITCH 0 is one like others: it is given but once. */
    private static void rescueToFirst() {
        FieldPitches x = new FieldPitches();
        level(x, 10, 9, 0);
        level(x, 10, 0, 0);
        level(x, 10, 0, 0);
        level(x, 10, 9, 0);
        on(x, 1, 2, 1);
        on(x, 1, 2, 2);
        Due.due("31 both", x.rescue(9, -1), 2);
        Due.due("31 to pitch 0", x.rescue(9, 0), 0);
        Due.due("31 to the other", x.rescue(9, 1), 3);
        Due.due("31 water 0", x.rescue(0, -1), 0);
        on(x, 1, 2, 3);
        Due.due("31 one of them", x.rescue(9, -1), 1);
        Due.due("31 it is given", x.rescue(9, 1), Due.NONE);
    }

    private static void rescueFits() {
        FieldPitches x = new FieldPitches();
        x.pitch(0, 1000, 32, 70);
        x.pitch(0, 1009, 732, 70);
        x.pitch(0, 1009, 632, 70);
        x.party(1, 500, 7, 3);
        x.put(0, 0);
        Due.due("31 it doesn't fit 1", x.rescue(9, 0), 2);
        x.shade(1, 6);
        Due.due("31 now it does", x.rescue(9, 0), 1);
        x.party(0, 100, 0, 101);
        x.put(1, 1);
        Due.due("31 another comes tomorrow: nobody is here yet", x.rescue(9, 0), 1);
        x.nights(1);
        Due.due("31 it is here", x.rescue(9, 0), 2);
    }
}
