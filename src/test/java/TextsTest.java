/** Promises 16 to 24: texts, money. */
final class TextsTest {
    private TextsTest() {
    }

    public static void main(String[] args) {
        feed();
        wipe();
        law();
        lawFaults();
        lawOpen();
        lawLong();
        worth();
        names();
        repeal();
        says();
        pay();
        cancel();
        review();
        stars();
        Due.end();
    }

    private static FieldPitches field() {
        FieldPitches x = new FieldPitches();
        for (int p = 0; p < 3; p++) {
            x.pitch(p, 3000, 32, 70);
        }
        return x;
    }

    private static void feed() {
        FieldPitches x = new FieldPitches();
        Due.due("16 n 0", x.feed(1, 0), Due.BEYOND);
        Due.due("16 n 5", x.feed(1, 5), Due.BEYOND);
        Due.due("16 n -1", x.feed(1, -1), Due.BEYOND);
        Due.due("16 highest first", x.feed('1' << 16 | '-' << 8 | 'l', 3), 3);
        Due.due("16 it is 1-l", x.law(0), 2);
        Due.due("16 the lowest alone", x.feed('x' << 24 | 'x' << 16 | '1' << 8 | '2', 2), 2);
        Due.due("16 it is 12", x.law(0), 1);
        x.feed('1' << 24 | '2' << 16 | '3' << 8 | 200, 4);
        Due.due("16 a byte above 127", x.law(0), -4);
        Due.due("16 four with the highest bit", x.feed(-1, 4), 4);
        Due.due("16 they begin no token", x.law(0), -1);
        for (int i = 1; i < 30; i++) {
            Due.due("16 four", x.feed(0x31313131, 4), 4 * i);
        }
        Due.due("16 three", x.feed(0x313131, 3), 119);
        Due.due("16 full", x.feed(0, 2), Due.FULL);
        Due.due("16 beyond ahead of full", x.feed(0, 5), Due.BEYOND);
        Due.due("16 nothing changed", x.count(4), 119);
        Due.due("16 the last", x.feed(0, 1), 120);
        Due.due("16 full", x.feed(0, 1), Due.FULL);
    }

    private static void wipe() {
        FieldPitches x = new FieldPitches();
        Due.type(x, "1+");
        Due.due("17 wipe", x.wipe(), 2);
        Due.due("17 wipe again", x.wipe(), 0);
        Due.due("17 count", x.count(4), 0);
        Due.due("17 what was there is gone", Due.tell(x, 0, "7"), 1);
    }

    private static void law() {
        FieldPitches x = field();
        x.party(2, 510, 0, 903);
        String[] texts = {"l", "a+n", "k*d/o", "1<2", "1=l", "(1)", "-1", "- ( - 1 )", " 1 ",
            "0000000000000000000000000000000009999", "(1<2)=(3=4)", "1--1", "1-(-1)", "1*-2"};
        int[] due = {1, 2, 3, 2, 2, 1, 1, 1, 1, 1, 4, 2, 2, 2};
        for (int i = 0; i < texts.length; i++) {
            Due.due("18 " + texts[i], Due.tell(x, 0, texts[i]), due[i]);
            Due.due("18 the tape is empty", x.count(4), 0);
        }
        x.feed('7', 1);
        Due.due("18 law 2", x.law(2), Due.BEYOND);
        Due.due("18 law -1", x.law(-1), Due.BEYOND);
        Due.due("18 the tape stays", x.count(4), 1);
        Due.due("18 law 1", x.law(1), 1);
        Due.due("18 it says so", x.says(1, 0), 7);
        Due.due("18 the other stays", x.says(0, 0), 0);
        int findings = x.status(-1);
        Due.due("18 a fault", Due.tell(x, 1, "8+"), -3);
        Due.due("18 is no finding", x.status(-1), findings);
        Due.due("18 the tape is empty", x.count(4), 0);
        Due.due("18 the text stays", x.says(1, 0), 7);
    }

    private static void lawFaults() {
        FieldPitches x = new FieldPitches();
        String[] texts = {"", " ", "   ", "+", "*1", "<1", ")", "1)", "(1", "(1 ", "()", "1 2", "1l", "l1",
            "ll", "l l", "x", "1+x", "1+lx", "10000", "1+10000", "00010000", "1+ 010000*", "1A", "A", "1\t",
            "1<2<3", "1<2=3", "1=2=3", "1=(2=3=4)", "1+", "1+ ", "1*", "1<", "-", "- ", "--", "1++1", "1**1", "1+*2",
            "(1))", "(1+2", "((1)", "1(2)", "(1)(2)", "(1)2", "1 + (2 * 3 4)", "l=", "1<=2", "1 ; 2", "99999 +",
            "1.5", "lz", "zl", "L", "a b", "{", "`", "/", "1/", ":", "1+\u0000", "z"};
        int[] fault = {0, 1, 3, 0, 0, 0, 0, 1, 2, 3, 1, 2, 1, 1,
            0, 2, 0, 2, 2, 0, 2, 0, 3, 1, 0, 1,
            3, 3, 3, 6, 2, 3, 2, 2, 1, 2, 2, 2, 2, 2,
            3, 4, 4, 1, 3, 3, 11, 2, 2, 2, 0,
            1, 0, 0, 0, 2, 0, 0, 0, 2, 0, 2, 0};
        for (int i = 0; i < texts.length; i++) {
            Due.due("18 fault of '" + texts[i] + "'", Due.tell(x, i % 2, texts[i]), -1 - fault[i]);
            Due.due("18 the tape is empty", x.count(4), 0);
        }
        Due.due("18 no law stands", x.repeal(0) + x.repeal(1), 0);
    }

    private static void lawOpen() {
        FieldPitches x = new FieldPitches();
        String[] texts = {"((((((((1))))))))", "(((((((((1)))))))))", "--------1", "---------1", "-(-(-(-(1))))",
            "-(-(-(-(-1))))", "-(-(-(-((1)))))", "-(-(-(-(1-1))))", "((((((((1))))))))+((((((((1))))))))",
            "((((((((1)+(1))))))))", "((((((((1+(1)", "--------1---------1", "--------1----------1", "--------(1)",
            "((((((((1<2))))))))", "((((((((-1))))))))", "-------1*--------1", "-------1*-(1)",
            "-------(1)+(((((((-1)))))))", " ( ( ( ( ( ( ( ( ( 1"};
        int[] due = {1, -9, 1, -9, 1, -9, -9, 2, 2, 2, -11, 2, -19, -9, 2, -9, 2, 2, 2, -18};
        for (int i = 0; i < texts.length; i++) {
            Due.due("18 open '" + texts[i] + "'", Due.tell(x, 0, texts[i]), due[i]);
        }
    }

    private static void lawLong() {
        FieldPitches x = field();
        x.party(0, 100, 0, 101);
        StringBuilder sum = new StringBuilder("11");
        while (sum.length() < 120) {
            sum.append("+1");
        }
        Due.due("18 120 bytes", Due.tell(x, 0, sum.toString()), 60);
        Due.due("18 their sum", x.says(0, 0), 11 + 59);
        Due.due("18 119 bytes end too early", Due.tell(x, 0, sum.substring(0, 119)), -120);
        Due.due("18 120 tokens end too early", Due.tell(x, 0, sum.substring(1) + "+"), -121);
        Due.due("18 120 tokens end too early", Due.tell(x, 0, sum.substring(1, 118) + "-1+"), -121);
        StringBuilder deep = new StringBuilder();
        for (int i = 0; i < 7; i++) {
            deep.append("1+2*(");
        }
        deep.append("l<n").append(")))))))");
        Due.due("18 deep", Due.tell(x, 0, deep.toString()), 16);
        Due.due("18 its worth", x.says(0, 0), 127);
        StringBuilder blanks = new StringBuilder();
        for (int i = 0; i < 119; i++) {
            blanks.append(' ');
        }
        Due.due("18 blanks ahead", Due.tell(x, 0, blanks + "5"), 1);
        Due.due("18 blanks behind", Due.tell(x, 0, "6" + blanks), 1);
        Due.due("18 blanks alone", Due.tell(x, 0, blanks + " "), -121);
    }

    private static void worth() {
        FieldPitches x = field();
        x.party(0, 100, 0, 101);
        String[] texts = {"7-2-1", "100/7/2", "2+3*4", "(2+3)*4", "2*3+4*5", "0-7/2+10", "10+-7/2", "10-7/-2", "5/0", "5/(1-1)+3",
            "1<2", "2<1", "1<1", "1=1", "1=2", "1+1<3", "2<1+2", "(1<2)+(3<4)", "9999", "9999+1", "0-1", "-5+6",
            "--5", "9999*9999*9999/9999", "9999*9999*22", "0007", "8/3*3", "-8/3+10", "3-(-3)", "(0-9999)*9999*22/9999+9",
            "2*-3+10"};
        int[] due = {4, 7, 14, 20, 26, 7, 7, 13, 0, 3,
            1, 0, 0, 1, 0, 1, 1, 2, 9999, 9999, 0, 1,
            5, 0, 0, 7, 6, 8, 6, 0,
            4};
        due[23] = held(9999 * 9999 * 9999 / 9999);
        due[24] = held(9999 * 9999 * 22);
        due[29] = held((0 - 9999) * 9999 * 22 / 9999 + 9);
        for (int i = 0; i < texts.length; i++) {
            Due.holds("18 " + texts[i], Due.tell(x, 0, texts[i]) > 0);
            Due.due("20 worth of " + texts[i], x.says(0, 0), due[i]);
        }
        // the least int by -1 wraps to itself
        Due.tell(x, 0, "4096*4096*128/-1");
        Due.due("20 the least by -1 is below 0", x.says(0, 0), 0);
        Due.tell(x, 0, "0-(4096*4096*128/-1+1)-9999*9999*21-6843*7000");
        int wrapped = -((4096 * 4096 * 128) / -1 + 1) - 9999 * 9999 * 21 - 6843 * 7000;
        Due.due("20 the least by -1 and 1", x.says(0, 0), held(wrapped));
    }

    private static int held(int v) {
        return Math.max(0, Math.min(9999, v));
    }

    private static void names() {
        FieldPitches x = field();
        x.party(3, 713, 0, 2205);
        x.party(0, 100, 0, 2001);
        x.party(0, 100, 0, 2003);
        x.party(0, 100, 0, 2201);
        x.party(0, 100, 0, 2301);
        x.party(0, 100, 0, 2201);
        x.put(1, 0);
        x.put(2, 1);
        x.put(3, 2);
        x.put(4, 2);
        String[] texts = {"l", "a", "n", "k", "d", "o", "0-d", "d<0"};
        int[] due = {7, 13, 5, 3, 22, 2, 0, 0};
        for (int i = 0; i < texts.length; i++) {
            Due.holds("18 " + texts[i], Due.tell(x, 0, texts[i]) > 0);
            Due.due("20 name " + texts[i], x.says(0, 0), due[i]);
        }
        Due.tell(x, 1, "o");
        Due.due("20 it doesn't count itself", x.says(1, 3), 1);
        x.put(0, 0);
        Due.due("20 it doesn't count itself", x.says(1, 0), 2);
        Due.due("20 but others", x.says(1, 3), 2);
        x.cancel(2);
        Due.due("20 none that was cancelled", x.says(1, 0), 1);
        x.nights(25);
        Due.tell(x, 0, "0-d");
        Due.due("20 d below 0", x.says(0, 0), 3);
        Due.tell(x, 1, "d");
        Due.due("20 d held", x.says(1, 0), 0);
    }

    private static void repeal() {
        FieldPitches x = field();
        x.party(0, 100, 0, 1001);
        Due.tell(x, 0, "1");
        Due.tell(x, 1, "2");
        Due.due("19 beyond", x.repeal(2), Due.BEYOND);
        Due.due("19 beyond", x.repeal(-1), Due.BEYOND);
        Due.due("19 repeal", x.repeal(1), 1);
        Due.due("19 it is as without a text", x.says(1, 0), 100);
        Due.due("19 the other stands", x.says(0, 0), 1);
        Due.due("19 again", x.repeal(1), 0);
        Due.due("19 repeal", x.repeal(0), 1);
        Due.due("19 it is as without a text", x.says(0, 0), 11);
    }

    private static void says() {
        FieldPitches x = new FieldPitches();
        int[] price = {10 + 7, 7 + 7, 17 + 26, 2 * 43, 43 - 14};
        for (int kind = 0; kind < 5; kind++) {
            x.party(kind, 713, 0, 801);
            Due.due("20 price of kind " + kind, x.says(0, kind), price[kind]);
        }
        Due.due("20 law 2", x.says(2, 0), Due.BEYOND);
        Due.due("20 law -1", x.says(-1, 0), Due.BEYOND);
        Due.due("20 party 5", x.says(0, 5), Due.BEYOND);
        Due.due("20 party -1", x.says(1, -1), Due.BEYOND);
        int[] refund = {100, 100, 50, 50, 50, 50, 50, 50, 0, 0, 0};
        for (int today = 0; today < refund.length; today++) {
            Due.due("20 refund in night " + today, x.says(1, 0), refund[today]);
            x.nights(1);
        }
        Due.tell(x, 1, "101");
        Due.due("20 refund held", x.says(1, 0), 100);
        Due.tell(x, 1, "-1");
        Due.due("20 refund held", x.says(1, 0), 0);
        Due.tell(x, 0, "-1");
        Due.due("20 price held", x.says(0, 0), 0);
        Due.tell(x, 0, "2*9999");
        Due.due("20 price held", x.says(0, 0), 9999);
        Due.tell(x, 0, "100");
        Due.due("20 price of its own", x.says(0, 0), 100);
    }

    private static void pay() {
        FieldPitches x = field();
        x.party(0, 500, 0, 1003);
        x.party(0, 500, 0, 1004);
        x.party(0, 500, 0, 1030);
        Due.due("21 pay", x.pay(0), 45);
        Due.due("21 till", x.count(3), 45);
        Due.due("21 again", x.pay(0), Due.STATE);
        Due.tell(x, 0, "0");
        Due.due("21 pay 0", x.pay(1), 0);
        Due.due("21 paid 0", x.partyOf(1, 8), 0);
        Due.due("21 again", x.pay(1), Due.STATE);
        Due.tell(x, 0, "9999");
        x.cancel(2);
        Due.due("21 cancelled", x.pay(2), Due.STATE);
        Due.due("21 not paid", x.partyOf(2, 8), -1);
        Due.due("21 beyond", x.pay(3), Due.BEYOND);
        Due.due("21 beyond", x.pay(-1), Due.BEYOND);
        x.party(0, 500, 0, 1030);
        Due.due("21 the most", x.pay(3), 299970);
        Due.due("21 till", x.count(3), 300015);
        Due.due("21 what it paid stays", x.partyOf(0, 8), 45);
    }

    private static void cancel() {
        FieldPitches x = field();
        x.party(0, 500, 0, 303);
        x.party(0, 500, 0, 2);
        x.party(0, 500, 0, 2);
        x.party(0, 500, 0, 1030);
        x.party(0, 500, 0, 1001);
        Due.due("22 pay", x.pay(0), 45);
        x.put(0, 0);
        Due.due("22 half, cut", x.cancel(0), 22);
        Due.due("22 till", x.count(3), 23);
        Due.due("22 the pitch is free", x.who(0, 3), -1);
        Due.due("22 it was", x.cancel(0), Due.STATE);
        x.pay(1);
        Due.due("22 it waits and has come: 0 hundredths", x.cancel(1), 0);
        x.put(2, 0);
        Due.due("22 it is on and has come", x.cancel(2), Due.STATE);
        Due.due("22 it stays", x.partyOf(2, 6), 0);
        Due.due("22 never paid", x.cancel(4), 0);
        Due.due("22 cancelled", x.partyOf(4, 6), -2);
        Due.tell(x, 0, "9999");
        x.pay(3);
        Due.tell(x, 1, "99");
        Due.due("22 of the most", x.cancel(3), 299970 * 99 / 100);
        Due.due("22 beyond", x.cancel(5), Due.BEYOND);
        Due.due("22 beyond", x.cancel(-1), Due.BEYOND);
        Due.due("22 till", x.count(3), 23 + 30 + 299970 - 299970 * 99 / 100);
    }

    private static void review() {
        FieldPitches x = field();
        x.party(0, 500, 0, 2);
        x.party(0, 500, 0, 2);
        x.party(0, 500, 0, 201);
        x.party(0, 500, 0, 2);
        x.put(0, 1);
        x.put(2, 1);
        x.put(3, 2);
        Due.due("23 its last night is behind", x.review(0, 3), Due.STATE);
        x.nights(1);
        Due.due("23 its last night is today", x.review(0, 3), Due.STATE);
        x.nights(1);
        Due.due("23 stars 0", x.review(0, 0), Due.BEYOND);
        Due.due("23 stars 6", x.review(0, 6), Due.BEYOND);
        Due.due("23 party 4", x.review(4, 3), Due.BEYOND);
        Due.due("23 party -1", x.review(-1, 3), Due.BEYOND);
        Due.due("23 review", x.review(0, 1), 1);
        Due.due("23 it gave one", x.review(0, 1), Due.STATE);
        Due.due("23 it is on none", x.review(1, 3), Due.STATE);
        Due.due("23 of another pitch", x.review(3, 5), 1);
        x.cancel(1);
        Due.due("23 it was cancelled", x.review(1, 3), Due.STATE);
        Due.due("23 beyond ahead of state", x.review(1, 6), Due.BEYOND);
        x.nights(1);
        Due.due("23 the second of the pitch", x.review(2, 5), 2);
    }

    private static void stars() {
        FieldPitches x = field();
        for (int p = 0; p < 3; p++) {
            x.party(0, 500, 0, 100 * p + 1);
            x.put(p, 1);
        }
        Due.due("24 none", x.stars(1), Due.NONE);
        x.nights(5);
        x.review(0, 5);
        Due.due("24 one", x.stars(1), 500);
        x.review(1, 4);
        Due.due("24 two", x.stars(1), 450);
        x.review(2, 2);
        Due.due("24 three, cut", x.stars(1), 366);
        Due.due("24 none", x.stars(0), Due.NONE);
        Due.due("24 beyond", x.stars(3), Due.BEYOND);
        Due.due("24 beyond", x.stars(-1), Due.BEYOND);
    }
}
