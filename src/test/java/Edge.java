import java.util.function.Supplier;
import java.util.function.ToIntBiFunction;
import java.util.function.ToIntFunction;

/** What the tests of boundary cases share: fields to test at, and what each refused call must keep. */
final class Edge {
    private Edge() {
    }

    /**
     * Night 2 of a field that has something of everything. PITCHES:
     * 0 LENGTH 15, HEIGHT 10, SHADE 2, AMPS 32, all FLAGS, POST 0;
     * 1 LENGTH 12, HEIGHT 20, SHADE 7, AMPS 16, DOGS and HUSH, POST 1;
     * 2 LENGTH 8, HEIGHT 30, SHADE 4, AMPS 10, no FLAGS, POST 2. PARTIES:
     * 0 was ON 2 in NIGHTS 0 and 1 and gave a REVIEW; 1 a TENT ON 0 in 3 to 7; 2 a VAN ON 0 in 9
     * to 12; 3 a GREAT, HERE on 1 in 0 to 4; 4 a SEASON that waits for 20 to 29 and PAID;
     * 5 was CANCELLED; 6 waits and has COME. An image of night 1 is kept.
     */
    static FieldPitches busy() {
        FieldPitches x = new FieldPitches();
        x.pitch(1020, 1510, 232, 70);
        x.pitch(1525, 1220, 716, 31);
        x.pitch(3030, 830, 410, 2);
        x.party(0, 500, 0, 2);
        x.party(1, 400, 1, 305);
        x.party(2, 910, 4, 904);
        x.party(3, 610, 0, 5);
        x.party(4, 816, 0, 2010);
        x.party(0, 300, 2, 3001);
        x.party(0, 100, 0, 103);
        x.put(0, 2);
        x.put(1, 0);
        x.put(2, 0);
        x.put(3, 1);
        x.near(1, 3);
        x.near(3, 1);
        x.near(4, 2);
        x.pay(4);
        x.pay(5);
        x.use(3, 0xF0, 20);
        x.use(1, 3, 7);
        x.limit(1, 19);
        x.wash(30, 20);
        x.wash(30, 5);
        x.wash(10, 30);
        x.hold(0, 3);
        x.hold(9, 5);
        Due.tell(x, 1, "40+d");
        x.nights(1);
        x.image();
        return afterImage(x);
    }

    /** What came after the image of a busy field, tape and sheets among it. */
    private static FieldPitches afterImage(FieldPitches x) {
        x.cancel(5);
        Due.tell(x, 0, "l*2+o");
        x.nights(1);
        x.review(0, 4);
        x.sheet(0, 8, 6);
        Due.row(x, 0, 0, 0, 50, 2);
        Due.row(x, 0, 1, 1, 50, 2);
        x.sheet(1, 16, 4);
        x.sheet(2, 8, 0);
        Due.type(x, "1+n");
        return x;
    }

    /** As many PITCHES, PARTIES, WASHERS and bytes as there may be. */
    static FieldPitches full() {
        FieldPitches x = new FieldPitches();
        for (int p = 0; p < 12; p++) {
            Due.due("pitch", x.pitch(100 * p, 3000, 32, 70), p);
        }
        for (int p = 0; p < 24; p++) {
            Due.due("party", x.party(0, 100, 0, 501), p);
        }
        for (int n = 1; n <= 20; n++) {
            Due.due("wash", x.wash(n, 5), n);
        }
        for (int n = 4; n <= 120; n += 4) {
            Due.due("feed", x.feed(0x31313131, 4), n);
        }
        return x;
    }

    /** PITCHES that differ in x alone: LENGTH 30, HEIGHT 0, SHADE 0, AMPS 32, all FLAGS, POST 0. */
    static FieldPitches plain(int pitches) {
        FieldPitches x = new FieldPitches();
        for (int p = 0; p < pitches; p++) {
            x.pitch(100 * p, 3000, 32, 70);
        }
        return x;
    }

    /** A PARTY comes to be ON a PITCH: its number. */
    static int on(FieldPitches x, int pitch, int first, int nights) {
        int party = x.party(0, 100, 0, 100 * first + nights);
        Due.due("put", x.put(party, pitch), -1);
        return party;
    }

    /** TODAY goes to a later NIGHT. */
    static FieldPitches until(FieldPitches x, int night) {
        for (int left = night - x.count(0); left > 0; left = night - x.count(0)) {
            x.nights(Math.min(50, left));
        }
        return x;
    }

    /** The call answers the finding, status() counts that one once, and nothing else changes. */
    static void refused(String what, Supplier<FieldPitches> made, ToIntFunction<FieldPitches> call, int finding) {
        FieldPitches x = made.get();
        FieldPitches twin = made.get();
        Due.due(what, call.applyAsInt(x), finding);
        Due.due(what + ": status(-1)", x.status(-1), twin.status(-1) + 1);
        for (int which = 0; which <= 6; which++) {
            int more = finding == Due.BEYOND - which ? 1 : 0;
            Due.due(what + ": status(" + which + ")", x.status(which), twin.status(which) + more);
        }
        unchanged(what, made, call);
    }

    static void unchanged(String what, Supplier<FieldPitches> made, ToIntFunction<FieldPitches> call) {
        for (Lens lens : Lens.values()) {
            FieldPitches x = made.get();
            call.applyAsInt(x);
            boolean isSame = lens.lookAt(x).equals(lens.lookAt(made.get()));
            Due.holds(what + ": nothing of " + lens + " changed", isSame);
        }
    }

    /** The call answers what is due, without a finding. */
    static void answers(String what, Supplier<FieldPitches> made, ToIntFunction<FieldPitches> call, int due) {
        FieldPitches x = made.get();
        int findings = x.status(-1);
        Due.due(what, call.applyAsInt(x), due);
        Due.due(what + ": no finding", x.status(-1), findings);
    }

    /** Least and greatest are taken, one below and one above are BEYOND. */
    static void bounds(String what, Supplier<FieldPitches> made, ToIntBiFunction<FieldPitches, Integer> call,
            int least, int most) {
        for (int v : new int[] {least, most}) {
            int answer = call.applyAsInt(made.get(), v);
            Due.holds(what + " " + v + " is taken, but " + answer, answer > -1000000);
        }
        for (int v : new int[] {least - 1, most + 1}) {
            refused(what + " " + v, made, x -> call.applyAsInt(x, v), Due.BEYOND);
        }
    }

    /** As bounds, and the ints furthest away are BEYOND too, as are those that wrap to what is taken. */
    static void range(String what, Supplier<FieldPitches> made, ToIntBiFunction<FieldPitches, Integer> call,
            int least, int most) {
        bounds(what, made, call, least, most);
        int[] farAway = {Integer.MIN_VALUE, Integer.MAX_VALUE, Integer.MIN_VALUE + most, least + 256, least + 65536};
        for (int v : farAway) {
            if (v < least || v > most) {
                refused(what + " " + v, made, x -> call.applyAsInt(x, v), Due.BEYOND);
            }
        }
    }
}
