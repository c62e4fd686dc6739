/** Promises 41 to 45: images. */
final class ImagesTest {
    private ImagesTest() {
    }

    public static void main(String[] args) {
        image();
        imageOfAll();
        undo();
        undoOfNew();
        undoneNumbers();
        tear();
        count();
        status();
        Due.end();
    }

    private static FieldPitches field() {
        FieldPitches x = new FieldPitches();
        x.pitch(0, 1000, 232, 70);
        x.pitch(0, 1000, 332, 71);
        x.party(2, 510, 0, 1);
        x.party(1, 500, 0, 1002);
        x.put(0, 0);
        return x;
    }

    private static void image() {
        FieldPitches x = field();
        Due.due("41 image", x.image(), 1);
        Due.due("41 again", x.image(), 1);
        x.nights(5);
        Due.due("41 the latest", x.image(), 1);
        x.nights(5);
        Due.due("41 the latest", x.undo(), 5);
        x.sheet(0, 8, 3);
        Due.row(x, 0, 0, 0, 20, 1);
        Due.type(x, "12");
        x.undo();
        Due.due("41 the tape isn't kept", x.count(4), 2);
        Due.due("41 sheets aren't", x.join(0), -1);
        x.image();
        Due.type(x, "3");
        x.sheet(0, 0, 0);
        x.undo();
        Due.due("41 the tape isn't kept", x.wipe(), 3);
        Due.due("41 sheets aren't", x.join(0), Due.MISSING);
    }

    private static void imageOfAll() {
        FieldPitches x = field();
        x.pay(1);
        x.near(1, 0);
        x.use(0, 1, 5);
        x.limit(0, 4);
        x.wash(10, 10);
        x.hold(3, 1);
        Due.tell(x, 0, "77");
        x.nights(2);
        x.review(0, 4);
        int[] was = all(x);
        x.image();
        x.pitch(5, 100, 0, 0);
        x.shade(1, 9);
        x.party(0, 100, 0, 3001);
        x.near(1, 2);
        x.near(0, 1);
        x.put(2, 0);
        x.put(1, 1);
        x.cancel(1);
        x.pay(2);
        x.use(0, 3, 15);
        x.limit(0, 8);
        x.limit(3, 8);
        x.wash(0, 60);
        x.hold(3, 2);
        x.hold(4, 0);
        Due.tell(x, 0, "1+1+1+1+1");
        Due.tell(x, 1, "33");
        x.nights(40);
        x.review(2, 1);
        x.undo();
        same(x, was);
        x.repeal(0);
        x.dry();
        x.nights(20);
        x.undo();
        same(x, was);
        Due.due("42 a new party is as new", x.party(0, 100, 0, 3001), 2);
        int[] due = {0, 1, 0, 0, 30, 1, -1, -1, -1, 0};
        for (int what = 0; what < due.length; what++) {
            Due.due("42 a new party is as new " + what, x.partyOf(2, what), due[what]);
        }
        Due.due("42 a new pitch is as new", x.pitch(7, 3000, 0, 0), 2);
        Due.due("42 without reviews", x.stars(2), Due.NONE);
        Due.due("42 it is free", x.who(2, 30), -1);
    }

    private static void same(FieldPitches x, int[] was) {
        int[] is = all(x);
        for (int i = 0; i < was.length; i++) {
            Due.due("42 as it was: " + i, is[i], was[i]);
        }
    }

    /** All that can be asked of field() without a change but status(). */
    private static int[] all(FieldPitches x) {
        int[] answers = new int[120];
        int n = 0;
        for (int what = 0; what <= 7; what++) {
            answers[n++] = x.count(what);
            for (int p = 0; p < 3; p++) {
                answers[n++] = x.pitchOf(p, what);
            }
        }
        for (int what = 0; what <= 9; what++) {
            for (int p = 0; p < 3; p++) {
                answers[n++] = x.partyOf(p, what);
            }
        }
        for (int p = 0; p < 2; p++) {
            answers[n++] = x.stars(p);
            answers[n++] = x.gaps(p);
            answers[n++] = x.says(p, 0);
            answers[n++] = x.says(p, 1);
            answers[n++] = x.block(1, p);
            answers[n++] = x.who(p, 0);
            answers[n++] = x.who(p, 10);
            answers[n++] = x.as(3 + p, 0);
            answers[n++] = x.review(p, 5);
        }
        for (int post = 0; post < 4; post++) {
            int limit = x.limit(post, 0);
            x.limit(post, limit);
            answers[n++] = limit;
            answers[n++] = x.load(post, 0);
        }
        return answers;
    }

    private static void undo() {
        FieldPitches x = field();
        Due.due("42 none", x.undo(), Due.NONE);
        x.nights(3);
        x.image();
        x.nights(4);
        Due.due("42 undo", x.undo(), 3);
        x.party(0, 100, 0, 9901);
        Due.due("42 which stays", x.undo(), 3);
        Due.due("42 parties", x.count(2), 2);
        Due.due("42 no such party", x.partyOf(2, 0), Due.BEYOND);
        int findings = x.status(-1);
        x.undo();
        Due.due("42 no finding is taken back", x.status(-1), findings);
    }

    private static void undoOfNew() {
        FieldPitches x = new FieldPitches();
        x.image();
        x.pitch(0, 1000, 0, 0);
        x.party(0, 100, 0, 1);
        x.put(0, 0);
        x.pay(0);
        x.hold(0, 0);
        x.wash(0, 1);
        Due.tell(x, 0, "5");
        x.nights(1);
        x.review(0, 5);
        Due.due("42 undo", x.undo(), 0);
        for (int what = 0; what <= 7; what++) {
            Due.due("42 as new " + what, x.count(what), 0);
        }
        Due.due("42 no text", x.repeal(0), 0);
        Due.due("42 spot", x.as(0, 0), Due.MISSING);
        x.pitch(0, 1000, 0, 0);
        x.party(0, 100, 0, 1);
        Due.due("42 it gave no review", x.stars(0), Due.NONE);
        Due.due("42 it paid nothing", x.partyOf(0, 8), -1);
    }

    /** A number that comes anew after undo() brings nothing of the one that had it. */
    private static void undoneNumbers() {
        FieldPitches x = new FieldPitches();
        x.image();
        for (int i = 0; i < 2; i++) {
            Due.due("42 pitch", x.pitch(0, 1000, 0, 0), 0);
            Due.due("42 party", x.party(0, 100, 0, 1), 0);
            Due.due("42 it uses nothing", x.load(0, 3), 0);
            Due.due("42 put", x.put(0, 0), -1);
            Due.due("42 it uses nothing", x.load(0, 0) + x.load(0, 3), 0);
            Due.due("42 no amps", x.may(0, 0, 24, 32), 0);
            x.use(0, 9, 40);
            x.nights(1);
            Due.due("42 its review is the first", x.review(0, 5 - i), 1);
            Due.due("42 stars", x.stars(0), 500 - 100 * i);
            Due.due("42 undo", x.undo(), 0);
        }
    }

    private static void tear() {
        FieldPitches x = field();
        Due.due("43 nothing", x.tear(), 0);
        x.image();
        x.nights(1);
        Due.due("43 tear", x.tear(), 1);
        Due.due("43 again", x.tear(), 0);
        Due.due("43 none", x.undo(), Due.NONE);
        Due.due("43 today stays", x.count(0), 1);
        x.image();
        x.nights(1);
        Due.due("43 a new image", x.undo(), 1);
        Due.due("43 undo leaves it kept", x.tear(), 1);
    }

    private static void count() {
        FieldPitches x = field();
        x.party(0, 500, 0, 3);
        x.party(0, 500, 0, 3);
        x.pay(2);
        x.wash(3, 3);
        x.feed(1, 4);
        int[] due = {0, 2, 4, 45, 4, 1, 1, 3};
        for (int what = 0; what < due.length; what++) {
            Due.due("44 count(" + what + ")", x.count(what), due[what]);
        }
        Due.due("44 what 8", x.count(8), Due.BEYOND);
        Due.due("44 what -1", x.count(-1), Due.BEYOND);
        x.put(2, 1);
        x.cancel(3);
        Due.due("44 here", x.count(6), 2);
        Due.due("44 waiting", x.count(7), 1);
        x.nights(1);
        Due.due("44 one went", x.count(6), 1);
        x.nights(2);
        Due.due("44 both went", x.count(6), 0);
        Due.due("44 today", x.count(0), 3);
    }

    private static void status() {
        FieldPitches x = field();
        Due.due("45 none yet", x.status(-1), 0);
        x.far(9, 9);
        x.feed(0, 4);
        x.law(0);
        Due.due("45 a fault is none", x.status(-1), 1);
        for (int i = 0; i < 20; i++) {
            x.wash(i, 1);
        }
        x.wash(0, 1);
        x.hold(0, 0);
        x.as(0, 1);
        x.stars(0);
        x.stars(0);
        x.put(0, 0);
        x.join(0);
        x.join(1);
        x.join(2);
        x.sheet(0, 8, -1);
        int[] due = {1, 1, 1, 2, 1, 3, 1};
        for (int which = 0; which < due.length; which++) {
            Due.due("45 status(" + which + ")", x.status(which), due[which]);
        }
        Due.due("45 all", x.status(-1), 10);
        Due.due("45 another", x.status(7), Due.BEYOND);
        Due.due("45 another", x.status(-2), Due.BEYOND);
        Due.due("45 they count from then on", x.status(0), 3);
        Due.due("45 all", x.status(-1), 12);
        x.image();
        x.count(99);
        x.undo();
        x.tear();
        x.undo();
        Due.due("45 undo takes none back", x.status(-1), 14);
        Due.due("45 its own", x.status(3), 3);
    }
}
