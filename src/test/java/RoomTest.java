import java.lang.management.ManagementFactory;

/** All calls of a run live in one room: a new object is small, and no call makes anything. */
final class RoomTest {
    private static final com.sun.management.ThreadMXBean BEAN =
            (com.sun.management.ThreadMXBean) ManagementFactory.getThreadMXBean();

    private RoomTest() {
    }

    public static void main(String[] args) {
        made();
        int warm = 0;
        FieldPitches[] fields = new FieldPitches[60];
        for (int i = 0; i < fields.length; i++) {
            fields[i] = new FieldPitches();
        }
        long begun = 0;
        for (int i = 0; i < fields.length; i++) {
            if (i == fields.length - 1) {
                begun = bytes();
            }
            warm += crowded(fields[i]);
        }
        long used = bytes() - begun;
        Due.holds("calls make nothing, but " + used + " bytes were used", used < 2000);
        Due.holds("the calls did something", warm != 0);
        Due.end();
    }

    private static long bytes() {
        return BEAN.getThreadAllocatedBytes(Thread.currentThread().getId());
    }

    private static void made() {
        new FieldPitches();
        long begun = bytes();
        FieldPitches x = new FieldPitches();
        long used = bytes() - begun;
        Due.holds("a new object takes " + used + " bytes", used < 40000);
        Due.due("it is new", x.count(0), 0);
    }

    /** The dearest calls with all that they can have. */
    private static int crowded(FieldPitches x) {
        for (int p = 0; p < 12; p++) {
            x.pitch(731 * p % 10000, 3000 + p, 32, 70 + p % 4);
        }
        for (int p = 0; p < 24; p++) {
            x.party(p % 5, 1010, 0, p < 10 ? 3 : 501 + p);
            x.put(p, p);
            x.near(p, (p * 7 + 5) % 23);
            x.use(p, 0xFFFFFF, 3);
        }
        for (int i = 0; i < 20; i++) {
            x.wash(50 - i, 9);
        }
        int sum = 0;
        x.sheet(0, 16, 60);
        x.sheet(1, 16, 60);
        for (int i = 0; i < 60; i++) {
            x.write(0, i, i % 3 == 0 ? 11 : i % 3 == 1 ? i : 1);
        }
        for (int i = 0; i < 10; i++) {
            x.feed(('(' << 8 | 'l') << 16 | '*' << 8 | 'o', 4);
            x.feed(')' << 16 | '-' << 8 | '-', 3);
            x.feed('7', 1);
            sum += x.law(0) + x.says(0, i) + x.plan(0xF << 10 + i % 8) + x.apart() + x.gaps(-1);
            sum += x.rescue(9, -1) + x.rescue(9, i) + x.wet(9) + x.trips(1) + x.may(i, 0, 24, 5);
            sum += x.block(1 + i % 6, 0) + x.join(0) + x.copy(0, 0, 1, 1, 59) + x.image() + x.undo() + x.nights(1);
            sum += x.pay(i) + x.cancel(23 - i) + x.review(i, 5) + x.stars(i) + x.far(i, 1) + x.status(-1);
        }
        return sum;
    }
}
