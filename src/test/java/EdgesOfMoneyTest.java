/** The boundary cases of promises 16 to 24, sentence by sentence (those of texts: EdgesOfTextsTest). */
final class EdgesOfMoneyTest {
    private EdgesOfMoneyTest() {
    }

    public static void main(String[] args) {
        feed();
        feedFull();
        feedOrder();
        feedBytes();
        wipe();
        law();
        lawCounts();
        lawWithFault();
        lawInPlace();
        repeal();
        says();
        saysOfAll();
        payBeyond();
        payState();
        payNothing();
        payAnyTime();
        cancelBeyond();
        cancelState();
        cancelOfOneThatCame();
        cancelWithoutPay();
        reviewBeyond();
        reviewStateOnNone();
        reviewStateLastNight();
        reviewStateAgain();
        reviewOrder();
        reviewCounts();
        starsBeyond();
        starsNone();
        starsAreCut();
        Due.end();
    }

    private static void feed() {
        Edge.range("16: n", Edge::busy, (x, v) -> x.feed('1', v), 1, 4);
        for (int n = 1; n <= 4; n++) {
            int more = n;
            Edge.answers("16: how many it has", Edge::busy, x -> x.feed('1', more), 3 + n);
        }
    }

    /** THE TAPE with so many bytes. */
    private static FieldPitches tape(int bytes) {
        FieldPitches x = Edge.plain(1);
        x.party(0, 100, 0, 1);
        for (int i = 0; i < bytes; i++) {
            x.feed('0', 1);
        }
        return x;
    }

    private static void feedFull() {
        for (int n = 1; n <= 4; n++) {
            int more = n;
            Edge.answers("16: up to 120, by " + n, () -> tape(120 - more), x -> x.feed(0x31313131, more), 120);
            Edge.refused("16: 121, by " + n, () -> tape(121 - more), x -> x.feed(0x31313131, more), Due.FULL);
            Edge.refused("16: it has 120, by " + n, Edge::full, x -> x.feed(0x31313131, more), Due.FULL);
        }
    }

    private static void feedOrder() {
        Edge.refused("16: BEYOND ahead of FULL, 0", Edge::full, x -> x.feed(0, 0), Due.BEYOND);
        Edge.refused("16: BEYOND ahead of FULL, 5", Edge::full, x -> x.feed(0, 5), Due.BEYOND);
        Edge.refused("16: an int that would wrap", Edge::full, x -> x.feed(0, Integer.MAX_VALUE), Due.BEYOND);
    }

    private static int worth(FieldPitches x) {
        Due.due("16: one NUMBER", x.law(0), 1);
        return x.says(0, 0);
    }

    private static void feedBytes() {
        int[] due = {4, 34, 234, 1234};
        for (int n = 1; n <= 4; n++) {
            FieldPitches x = tape(0);
            x.feed(0x31323334, n);
            Due.due("16: the " + n + " lowest, the highest of these first", worth(x), due[n - 1]);
        }
        FieldPitches y = tape(0);
        y.feed('1', 1);
        y.feed('2', 1);
        Due.due("16: behind it", worth(y), 12);
        FieldPitches z = tape(0);
        z.feed(0xFFFFFF37, 1);
        Due.due("16: a number below 0", worth(z), 7);
        z.feed(0x80313233, 3);
        Due.due("16: the least number", worth(z), 123);
        z.feed(0x80000000, 4);
        Due.due("16: its highest byte is 128", z.law(0), -1);
        z.feed(0x310000FF, 4);
        Due.due("16: bytes of 0", z.law(0), -2);
    }

    private static void wipe() {
        Edge.answers("17: empty", FieldPitches::new, x -> x.wipe(), 0);
        Edge.answers("17: how many it had", Edge::busy, x -> x.wipe(), 3);
        Edge.answers("17: full", Edge::full, x -> x.wipe(), 120);
        FieldPitches x = Edge.full();
        x.wipe();
        Due.due("17: THE TAPE is empty", x.count(4), 0);
        Due.due("17: it takes bytes again", x.feed('1', 1), 1);
        x.wipe();
        Due.due("17: nothing is left of it", x.law(0), -1);
    }

    private static void law() {
        Edge.range("18: law", Edge::busy, (x, v) -> x.law(v), 0, 1);
        Edge.refused("18: BEYOND with a FAULT", () -> tape(0), x -> x.law(2), Due.BEYOND);
        FieldPitches x = Edge.busy();
        x.law(1);
        Due.due("18: and empty then", x.count(4), 0);
        Due.due("18: it is that LAW's TEXT", x.says(1, 3), 6);
        Due.due("18: and no other's", x.says(0, 3), 13);
    }

    private static void lawCounts() {
        Edge.answers("18: how many NUMBERS and NAMES", Edge::busy, x -> x.law(0), 2);
        Due.due("18: the least", Due.tell(new FieldPitches(), 0, "1"), 1);
        Due.due("18: the most", Due.tell(new FieldPitches(), 0, "l" + "+1".repeat(59)), 60);
        Due.due("18: one twice", Due.tell(new FieldPitches(), 0, "l+l"), 2);
        Due.due("18: not those of the TEXT ahead of it", lawTwice(), 1);
    }

    private static int lawTwice() {
        FieldPitches x = new FieldPitches();
        Due.tell(x, 0, "1+2+3");
        Due.tell(x, 0, "1+2+");
        return Due.tell(x, 0, "7");
    }

    private static void lawWithFault() {
        FieldPitches x = Edge.busy();
        int price = x.says(0, 3);
        int refund = x.says(1, 3);
        int findings = x.status(-1);
        x.wipe();
        Due.due("18: the least FAULT: -1", x.law(0), -1);
        Due.due("18: -1 less the FAULT", Due.tell(x, 1, "7+"), -3);
        Due.due("18: THE TAPE is empty", x.count(4), 0);
        Due.due("18: no finding", x.status(-1), findings);
        Due.due("18: the TEXT of LAW 0 stays", x.says(0, 3), price);
        Due.due("18: the TEXT of LAW 1 stays", x.says(1, 3), refund);
        Due.due("18: the greatest FAULT", Due.tell(x, 0, " ".repeat(120)), -121);
        FieldPitches y = new FieldPitches();
        Due.tell(y, 0, "+");
        Due.due("18: no LAW has a TEXT", y.repeal(0), 0);
        Edge.unchanged("18: with a FAULT", EdgesOfMoneyTest::wiped, z -> Due.tell(z, 0, "7+"));
        Edge.unchanged("18: with a FAULT at the end", EdgesOfMoneyTest::wiped, z -> Due.tell(z, 1, "(7)8"));
    }

    private static FieldPitches wiped() {
        FieldPitches x = Edge.busy();
        x.wipe();
        return x;
    }

    private static void lawInPlace() {
        FieldPitches x = tape(0);
        Due.tell(x, 0, "1" + "+1".repeat(59));
        Due.tell(x, 0, "5");
        Due.due("18: a short TEXT in place of a long one", x.says(0, 0), 5);
        Due.tell(x, 0, "2*3*4");
        Due.due("18: a longer one", x.says(0, 0), 24);
        Due.tell(x, 0, "-1");
        Due.tell(x, 0, "5");
        Due.due("18: nothing is left of a -", x.says(0, 0), 5);
    }

    private static void repeal() {
        Edge.range("19: law", Edge::busy, (x, v) -> x.repeal(v), 0, 1);
        Edge.answers("19: it had one, 0", Edge::busy, x -> x.repeal(0), 1);
        Edge.answers("19: it had one, 1", Edge::busy, x -> x.repeal(1), 1);
        Edge.answers("19: it had none, 0", FieldPitches::new, x -> x.repeal(0), 0);
        Edge.answers("19: it had none, 1", FieldPitches::new, x -> x.repeal(1), 0);
        FieldPitches x = Edge.busy();
        x.repeal(0);
        Due.due("19: no TEXT any more", x.repeal(0), 0);
        Due.due("19: PRICE as in 1", x.says(0, 3), 72);
        Due.due("19: the other LAW stays", x.says(1, 4), 58);
        Due.due("19: it had one", x.repeal(1), 1);
        Due.due("19: REFUND without a TEXT", x.says(1, 4), 100);
        Due.due("19: THE TAPE stays", x.count(4), 3);
    }

    private static void says() {
        Edge.range("20: law", Edge::busy, (x, v) -> x.says(v, 3), 0, 1);
        Edge.range("20: party", Edge::busy, (x, v) -> x.says(0, v), 0, 6);
        Edge.range("20: party, law 1", Edge::busy, (x, v) -> x.says(1, v), 0, 6);
        Edge.unchanged("20: says 0", Edge::busy, x -> x.says(0, 3));
        Edge.unchanged("20: says 1", Edge::busy, x -> x.says(1, 3));
    }

    private static void saysOfAll() {
        int[] price = {11, 9, 18, 13, 16, 6, 4};
        int[] refund = {38, 41, 47, 38, 58, 68, 39};
        for (int p = 0; p <= 6; p++) {
            int party = p;
            Edge.answers("20: PRICE of " + p, Edge::busy, x -> x.says(0, party), price[p]);
            Edge.answers("20: REFUND of " + p, Edge::busy, x -> x.says(1, party), refund[p]);
        }
    }

    private static FieldPitches waiting(int parties) {
        FieldPitches x = Edge.plain(3);
        for (int p = 0; p < parties; p++) {
            x.party(0, 500, 0, 1003);
        }
        return x;
    }

    private static void payBeyond() {
        Edge.range("21: party", () -> waiting(3), (x, v) -> x.pay(v), 0, 2);
        Edge.range("21: party of 24", () -> waiting(24), (x, v) -> x.pay(v), 0, 23);
        Edge.refused("21: no PARTIES", FieldPitches::new, x -> x.pay(0), Due.BEYOND);
    }

    private static FieldPitches paid(String price, boolean isCancelled) {
        FieldPitches x = waiting(1);
        Due.tell(x, 0, price);
        x.pay(0);
        if (isCancelled) {
            x.cancel(0);
        }
        return x;
    }

    private static void payState() {
        Edge.refused("21: it PAID", () -> paid("7", false), x -> x.pay(0), Due.STATE);
        Edge.refused("21: it PAID 0, too", () -> paid("0", false), x -> x.pay(0), Due.STATE);
        Edge.refused("21: it PAID and was CANCELLED", () -> paid("7", true), x -> x.pay(0), Due.STATE);
        Edge.refused("21: it was CANCELLED", EdgesOfMoneyTest::cancelled, x -> x.pay(0), Due.STATE);
    }

    private static FieldPitches cancelled() {
        FieldPitches x = waiting(1);
        x.cancel(0);
        return x;
    }

    private static void payNothing() {
        FieldPitches x = waiting(1);
        Due.tell(x, 0, "0");
        Due.due("21: how much: 0", x.pay(0), 0);
        Due.due("21: THE TILL", x.count(3), 0);
        Due.due("21: it gets 0", x.cancel(0), 0);
    }

    private static void payAnyTime() {
        FieldPitches x = Edge.busy();
        x.repeal(0);
        int till = x.count(3);
        Due.due("21: one that waits and has COME", x.pay(6), 33);
        Due.due("21: one whose last NIGHT went", x.pay(0), 30);
        Due.due("21: one that is HERE", x.pay(3), 5 * 72);
        Due.due("21: THE TILL", x.count(3), till + 33 + 30 + 360);
    }

    private static void cancelBeyond() {
        Edge.range("22: party", () -> waiting(3), (x, v) -> x.cancel(v), 0, 2);
        Edge.range("22: party of 24", () -> waiting(24), (x, v) -> x.cancel(v), 0, 23);
        Edge.refused("22: no PARTIES", FieldPitches::new, x -> x.cancel(0), Due.BEYOND);
    }

    private static FieldPitches onUntil(int today) {
        FieldPitches x = waiting(1);
        x.put(0, 0);
        x.pay(0);
        return Edge.until(x, today);
    }

    private static void cancelState() {
        Edge.refused("22: it was", Edge::busy, x -> x.cancel(5), Due.STATE);
        Edge.refused("22: it is ON a PITCH and has COME", Edge::busy, x -> x.cancel(3), Due.STATE);
        Edge.refused("22: it is ON one, its last NIGHT went", Edge::busy, x -> x.cancel(0), Due.STATE);
        Edge.answers("22: ON one, the NIGHT ahead of its first", () -> onUntil(9), x -> x.cancel(0), 22);
        Edge.refused("22: ON one, in its first NIGHT", () -> onUntil(10), x -> x.cancel(0), Due.STATE);
        Edge.refused("22: ON one, the NIGHT behind its first", () -> onUntil(11), x -> x.cancel(0), Due.STATE);
    }

    private static void cancelOfOneThatCame() {
        Edge.answers("22: it waits and has COME", Edge::busy, x -> x.cancel(6), 0);
        FieldPitches x = waiting(1);
        x.pay(0);
        Edge.until(x, 10);
        Due.due("22: d is 0: it gets 0", x.cancel(0), 0);
        Due.due("22: THE TILL keeps it", x.count(3), 45);
        Due.due("22: it is CANCELLED", x.partyOf(0, 6), -2);
    }

    private static void cancelWithoutPay() {
        Edge.answers("22: 0, if it never PAID", () -> waiting(1), x -> x.cancel(0), 0);
        FieldPitches x = waiting(2);
        x.pay(1);
        x.cancel(0);
        Due.due("22: THE TILL stays", x.count(3), 45);
        Due.due("22: -1: not PAID yet", x.partyOf(0, 8), -1);
        FieldPitches y = onUntil(0);
        Due.due("22: all of it", y.cancel(0), 45);
        Due.due("22: it is ON no PITCH", y.who(0, 10), -1);
        Due.due("22: what it PAID", y.partyOf(0, 8), 45);
    }

    /** The first three PARTIES are ON PITCHES in NIGHTS 10 to 12. */
    private static FieldPitches gone(int today, int parties) {
        FieldPitches x = waiting(parties);
        for (int p = 0; p < 3; p++) {
            x.put(p, p);
        }
        return Edge.until(x, today);
    }

    private static void reviewBeyond() {
        Edge.range("23: party", () -> gone(13, 3), (x, v) -> x.review(v, 3), 0, 2);
        Edge.range("23: stars", () -> gone(13, 4), (x, v) -> x.review(0, v), 1, 5);
        Edge.refused("23: no PARTIES", FieldPitches::new, x -> x.review(0, 1), Due.BEYOND);
    }

    private static void reviewStateOnNone() {
        Edge.refused("23: it waits", () -> gone(13, 4), x -> x.review(3, 1), Due.STATE);
        Edge.refused("23: it was CANCELLED", () -> Edge.until(cancelled(), 13), x -> x.review(0, 1), Due.STATE);
    }

    private static void reviewStateLastNight() {
        Edge.refused("23: it has not COME", () -> gone(9, 4), x -> x.review(0, 1), Due.STATE);
        Edge.refused("23: its last NIGHT is later", () -> gone(11, 4), x -> x.review(0, 1), Due.STATE);
        Edge.refused("23: its last NIGHT is TODAY", () -> gone(12, 4), x -> x.review(0, 1), Due.STATE);
        Edge.answers("23: its last NIGHT was yesterday", () -> gone(13, 4), x -> x.review(0, 1), 1);
        Edge.answers("23: long ago", () -> gone(99, 4), x -> x.review(0, 1), 1);
        FieldPitches x = Edge.plain(1);
        Edge.on(x, 0, 99, 1);
        Edge.until(x, 99);
        Due.due("23: one that stays in NIGHT 99 never can", x.review(0, 1), Due.STATE);
    }

    private static void reviewStateAgain() {
        Edge.refused("23: it gave one", Edge::busy, x -> x.review(0, 1), Due.STATE);
    }

    private static void reviewOrder() {
        Edge.refused("23: BEYOND ahead of STATE, it gave one", Edge::busy, x -> x.review(0, 6), Due.BEYOND);
        Edge.refused("23: BEYOND ahead of STATE, ON none", Edge::busy, x -> x.review(6, 0), Due.BEYOND);
        Edge.refused("23: BEYOND ahead of STATE, HERE", Edge::busy, x -> x.review(3, 0), Due.BEYOND);
    }

    private static void reviewCounts() {
        FieldPitches x = Edge.plain(2);
        for (int p = 0; p < 24; p++) {
            Edge.on(x, p == 23 ? 0 : 1, p, 1);
        }
        Edge.until(x, 30);
        for (int p = 0; p < 23; p++) {
            Due.due("23: how many there are of that PITCH", x.review(p, 5), p + 1);
        }
        Due.due("23: of another PITCH", x.review(23, 1), 1);
        Due.due("23: all are 5", x.stars(1), 500);
        Due.due("23: of the other", x.stars(0), 100);
    }

    private static FieldPitches reviewed() {
        FieldPitches x = gone(13, 4);
        for (int p = 0; p < 3; p++) {
            x.review(p, p + 1);
        }
        return x;
    }

    private static void starsBeyond() {
        Edge.range("24: pitch", EdgesOfMoneyTest::reviewed, (x, v) -> x.stars(v), 0, 2);
        Edge.unchanged("24: stars", EdgesOfMoneyTest::reviewed, x -> x.stars(1));
    }

    private static void starsNone() {
        Edge.refused("24: NONE: it has none", Edge::busy, x -> x.stars(0), Due.NONE);
        Edge.answers("24: it has one", Edge::busy, x -> x.stars(2), 400);
        Edge.refused("24: BEYOND, not NONE", FieldPitches::new, x -> x.stars(0), Due.BEYOND);
    }

    private static void starsAreCut() {
        int[][] stars = {{1}, {5}, {1, 2}, {1, 1, 2}, {1, 2, 2}, {5, 5, 4}, {5, 4, 4, 4, 4, 4, 4}};
        int[] due = {100, 500, 150, 133, 166, 466, 414};
        for (int i = 0; i < stars.length; i++) {
            FieldPitches x = Edge.plain(1);
            for (int p = 0; p < stars[i].length; p++) {
                Edge.on(x, 0, p, 1);
            }
            Edge.until(x, 20);
            for (int p = 0; p < stars[i].length; p++) {
                x.review(p, stars[i][p]);
            }
            Due.due("24: 100 times the stars by the REVIEWS, cut", x.stars(0), due[i]);
        }
    }
}
