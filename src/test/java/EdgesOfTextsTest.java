import java.util.Arrays;

/** The boundary cases of the Terms, 2: texts and laws, sentence by sentence. */
final class EdgesOfTextsTest {
    private EdgesOfTextsTest() {
    }

    public static void main(String[] args) {
        mostBytes();
        tokensAreLong();
        letters();
        digits();
        zerosAhead();
        mostNumber();
        greatNumbersDontWrap();
        signs();
        blanks();
        otherBytes();
        wholeText();
        comparedOnce();
        sums();
        terms();
        ones();
        namesOfParty();
        daysBehind();
        othersOn();
        faultsOfTokens();
        firstFault();
        endsTooEarly();
        openParens();
        openMinus();
        openBoth();
        openEnds();
        sumsWrap();
        productsWrap();
        minusWraps();
        quotientsWrap();
        byZero();
        comparing();
        priceIsHeld();
        refundIsHeld();
        refundWithoutText();
        paidOnce();
        refundIsCut();
        Due.end();
    }

    /** What law() answers to a text. */
    private static int told(String text) {
        return Due.tell(new FieldPitches(), 0, text);
    }

    private static void takes(String name, String text, int operands) {
        Due.due("2: " + name + " '" + text + "'", told(text), operands);
    }

    private static void faulty(String name, String text, int fault) {
        Due.due("2: " + name + " '" + text + "'", told(text), -1 - fault);
    }

    /** What a text is worth, which is 0 to 9999. */
    private static void worth(String name, String text, int due) {
        FieldPitches x = new FieldPitches();
        x.party(0, 100, 0, 1);
        Due.holds("2: " + text + " is a text", Due.tell(x, 0, text) > 0);
        Due.due("2: " + name + " " + text, x.says(0, 0), due);
    }

    private static String many(char c, int n) {
        char[] signs = new char[n];
        Arrays.fill(signs, c);
        return new String(signs);
    }

    private static void mostBytes() {
        FieldPitches x = new FieldPitches();
        Due.due("2: 119 bytes", Due.type(x, many('0', 119)), 119);
        Due.due("2: 120 bytes", x.feed('7', 1), 120);
        Due.due("2: 121 bytes", x.feed('8', 1), Due.FULL);
        Due.due("2: all 120 are the TEXT", x.law(0), 1);
        x.party(0, 100, 0, 1);
        Due.due("2: the last one too", x.says(0, 0), 7);
        Edge.refused("2: THE TAPE, at most 120", Edge::full, y -> y.feed('8', 1), Due.FULL);
        takes("120 TOKENS but one", "1" + "+1".repeat(59), 60);
        faulty("120 TOKENS", "1" + "+1".repeat(59) + "+", 120);
        worth("120 TOKENS that are a TEXT", "-1" + "+1".repeat(59), 58);
    }

    private static void tokensAreLong() {
        faulty("a WORD as long as can be", "la", 0);
        faulty("a WORD as long as can be", "1+la", 2);
        faulty("a WORD as long as can be", many('l', 120), 0);
        takes("a NUMBER as long as can be", "1234", 1);
        faulty("a NUMBER as long as can be", "12345", 0);
        faulty("a WORD ends at a digit", "l1", 1);
        faulty("a NUMBER ends at a letter", "1l", 1);
        faulty("a WORD ends at a blank", "l a", 2);
        faulty("a NUMBER ends at a blank", "1 2", 2);
        takes("SIGNS are one byte each", "1--1", 2);
        faulty("SIGNS are one byte each", "1<=1", 2);
        faulty("SIGNS are one byte each", "1==1", 2);
    }

    private static void letters() {
        for (char c = 'a'; c <= 'z'; c++) {
            int due = "lankdo".indexOf(c) >= 0 ? 1 : -1;
            Due.due("2: the WORD " + c, told("" + c), due);
            faulty("a letter goes on with a WORD", "l" + c, 0);
        }
        for (char c : new char[] {'`', '{', 'A', 'Z', 'L', '@', '[', (char) ('l' + 128)}) {
            faulty("no letter", "" + c, 0);
            faulty("no letter: the WORD ends ahead of it", "l" + c, 1);
        }
    }

    private static void digits() {
        for (char c = '0'; c <= '9'; c++) {
            worth("the NUMBER", "" + c, c - '0');
            worth("a digit goes on with a NUMBER", "1" + c, 10 + c - '0');
        }
        faulty("above the digits", ":", 0);
        faulty("above the digits", "1:", 1);
        faulty("below the digits", "1/", 2);
        faulty("below the digits", "1.", 1);
    }

    private static void zerosAhead() {
        worth("0", "0", 0);
        worth("0 ahead", "00", 0);
        worth("0 ahead", "09999", 9999);
        worth("0 ahead", many('0', 116) + "9999", 9999);
        worth("0 alone", many('0', 120), 0);
        faulty("0 ahead of too great", "010000", 0);
        faulty("0 ahead of too great", many('0', 115) + "10000", 0);
    }

    private static void mostNumber() {
        worth("the greatest NUMBER", "9999", 9999);
        worth("one below", "9998", 9998);
        faulty("one above", "10000", 0);
        faulty("one above, later", "1+(10000", 3);
        faulty("much above", "99999", 0);
    }

    private static void greatNumbersDontWrap() {
        for (String n : new String[] {"4294967296", "4294967297", "2147483648", "18446744073709551617", "65536", "65537"}) {
            faulty("too great", n, 0);
            faulty("too great, later", "1*" + n, 2);
        }
        faulty("120 digits", many('9', 120), 0);
        faulty("1 and 119 digits 0", "1" + many('0', 119), 0);
    }

    private static void signs() {
        for (String sign : new String[] {"<", "=", "+", "-", "*", "/"}) {
            takes("the SIGN", "1" + sign + "1", 2);
        }
        takes("the SIGNS", "(1)", 1);
        for (char c : new char[] {'>', '!', ',', '.', ';', '%', '&', '\'', '"', '#', '^', '_', '?'}) {
            faulty("no SIGN", "1" + c + "1", 1);
        }
    }

    private static void blanks() {
        takes("no blanks", "1+l*(2)", 3);
        takes("blanks between", "1 + l * ( 2 )", 3);
        takes("many between", "1" + many(' ', 117) + "+1", 2);
        takes("ahead", "  1", 1);
        takes("behind", "1  ", 1);
        takes("ahead and behind", many(' ', 60) + "1" + many(' ', 59), 1);
        faulty("a NUMBER is parted", "99 99", 3);
        faulty("a WORD is parted", "l l", 2);
        worth("- and its ONE are parted", "5 - - 3", 8);
        faulty("the place counts them", "  x", 2);
        faulty("blanks alone", " ", 1);
        faulty("blanks alone", many(' ', 120), 120);
    }

    private static void otherBytes() {
        for (int b = 0; b <= 255; b++) {
            boolean isKnown = b == ' ' || b >= '0' && b <= '9' || b >= 'a' && b <= 'z' || "<=+-*/()".indexOf(b) >= 0;
            if (!isKnown) {
                faulty("byte " + b + " begins no TOKEN", "" + (char) b, 0);
                faulty("byte " + b + " begins no TOKEN", "1+1" + (char) b, 3);
                faulty("byte " + b + " is no blank", "1" + (char) b + "+1", 1);
            }
        }
    }

    private static void wholeText() {
        faulty("the empty TEXT", "", 0);
        faulty("more than E", "1)", 1);
        faulty("more than E", "1(", 1);
        faulty("more than E", "(1)(1)", 3);
        faulty("more than E", "(1)1", 3);
        faulty("more than E", "(1)l", 3);
        faulty("more than E", "1<1)", 3);
    }

    private static void comparedOnce() {
        takes("a SUM alone", "1+1", 2);
        takes("perhaps <", "1+1<1+1", 4);
        takes("perhaps =", "1+1=1+1", 4);
        for (String again : new String[] {"1<1<1", "1<1=1", "1=1<1", "1=1=1"}) {
            faulty("but once", again, 3);
        }
        faulty("but once in ( )", "(1<1<1)", 4);
        takes("once in each ( )", "(1<1)<(1=1)", 4);
        faulty("a SUM ahead of it", "<1", 0);
        faulty("a SUM ahead of it", "=1", 0);
        faulty("a SUM behind it", "1<", 2);
        faulty("a SUM behind it", "1=)", 2);
    }

    private static void sums() {
        worth("from left to right", "9-5-2", 2);
        worth("from left to right", "9-5+2", 6);
        worth("+ behind *", "2+3*4+5", 19);
        faulty("a TERM ahead of it", "+1", 0);
        faulty("a TERM behind it", "1+", 2);
        faulty("a TERM behind it", "1-", 2);
        faulty("a TERM behind it", "1++1", 2);
        faulty("a TERM behind it", "1-<1", 2);
    }

    private static void terms() {
        worth("from left to right", "100/5/2", 10);
        worth("from left to right", "100/5*2", 40);
        worth("from left to right, cut each time", "7/2*2", 6);
        faulty("a ONE ahead of it", "*1", 0);
        faulty("a ONE ahead of it", "/1", 0);
        faulty("a ONE behind it", "1*", 2);
        faulty("a ONE behind it", "1/", 2);
        faulty("a ONE behind it", "1*/1", 2);
        faulty("a ONE behind it", "1/+1", 2);
    }

    private static void ones() {
        worth("a NUMBER", "7", 7);
        worth("a NAME", "l", 1);
        worth("( E )", "(7)", 7);
        worth("( E ) that compares", "5+(1<2)", 6);
        worth("- ONE", "9+-7", 2);
        worth("- - ONE", "--7", 7);
        worth("- is ahead of *", "50+-7*2", 36);
        worth("- is ahead of /", "50+-7/2", 47);
        worth("- ahead of ( )", "9+-(3+4)", 2);
        worth("- ends with its ONE", "-2+3", 1);
        faulty("( )", "()", 1);
        faulty("( without )", "(1", 2);
        faulty("( without )", "((1)", 4);
        faulty(") without (", ")", 0);
        faulty("- without a ONE", "-", 1);
        faulty("- without a ONE", "-+1", 1);
        faulty("- without a ONE", "-)", 1);
        faulty("( E ), not ( E E )", "(1 2)", 3);
    }

    private static void namesOfParty() {
        FieldPitches x = new FieldPitches();
        x.party(4, 3032, 0, 7030);
        x.party(0, 100, 0, 1);
        String[] names = {"l", "a", "n", "k", "d", "o"};
        int[] most = {30, 32, 30, 4, 70, 0};
        int[] least = {1, 0, 1, 0, 0, 0};
        for (int i = 0; i < names.length; i++) {
            Due.due("2: the NAME " + names[i], Due.tell(x, 0, names[i]), 1);
            Due.due("2: the greatest " + names[i], x.says(0, 0), most[i]);
            Due.due("2: the least " + names[i], x.says(0, 1), least[i]);
        }
    }

    private static void daysBehind() {
        FieldPitches x = new FieldPitches();
        x.party(0, 100, 0, 9901);
        x.party(0, 100, 0, 1);
        x.party(0, 100, 0, 201);
        Due.tell(x, 0, "1000+d");
        Due.due("2: the greatest d", x.says(0, 0), 1099);
        Due.due("2: d is 0 in NIGHT 0", x.says(0, 1), 1000);
        x.nights(1);
        Due.due("2: the NIGHT behind TODAY", x.says(0, 2), 1001);
        x.nights(1);
        Due.due("2: TODAY", x.says(0, 2), 1000);
        x.nights(1);
        Due.due("2: below 0: ahead", x.says(0, 2), 999);
        Edge.until(x, 99);
        Due.due("2: the least d", x.says(0, 1), 901);
        Due.due("2: d is 0 in NIGHT 99", x.says(0, 0), 1000);
    }

    private static void othersOn() {
        FieldPitches x = Edge.plain(12);
        x.party(0, 100, 0, 505);
        Due.tell(x, 0, "o");
        Due.due("2: o with no others", x.says(0, 0), 0);
        Edge.on(x, 0, 4, 1);
        Edge.on(x, 0, 6, 1);
        Due.due("2: in the NIGHTS beside it", x.says(0, 0), 0);
        Edge.on(x, 1, 4, 2);
        Due.due("2: its last NIGHT", x.says(0, 0), 1);
        Edge.on(x, 2, 5, 1);
        Due.due("2: its first NIGHT", x.says(0, 0), 2);
        x.party(0, 100, 0, 501);
        Due.due("2: one that waits isn't ON one", x.says(0, 0), 2);
        x.cancel(4);
        Due.due("2: nor one that was CANCELLED", x.says(0, 0), 1);
        x.put(0, 3);
        Due.due("2: nor itself", x.says(0, 0), 1);
        for (int pitch = 4; pitch < 12; pitch++) {
            Edge.on(x, pitch, 5, 1);
        }
        Due.due("2: the most", x.says(0, 0), 9);
        Edge.until(x, 20);
        Due.due("2: also when these NIGHTS went", x.says(0, 0), 9);
    }

    private static void faultsOfTokens() {
        faulty("a NUMBER that is too great", "1+10000*x", 2);
        faulty("another WORD", "1+ll*10000", 2);
        faulty("another WORD", "b", 0);
        faulty("a byte that begins no TOKEN", "1+?*x", 2);
        faulty("a NUMBER can't stand there", "1 10000", 2);
        faulty("a WORD can't stand there", "1 x", 2);
        faulty("a NAME can't stand there", "1 l", 2);
    }

    private static void firstFault() {
        faulty("the first of two", "1++x", 2);
        faulty("the first of two", "x 10000", 0);
        faulty("the first of two", ") (", 0);
        faulty("the first byte of a long TOKEN", "1+abc", 2);
        faulty("the first byte of a long TOKEN", "1+ 0099999", 3);
        faulty("the greatest place of a TOKEN", many(' ', 119) + "x", 119);
    }

    private static void endsTooEarly() {
        faulty("how many bytes there are", "1+", 2);
        faulty("blanks too", "1+  ", 4);
        faulty("in ( )", "(1 ", 3);
        faulty("behind -", "1- - ", 5);
        faulty("behind <", "1 < ", 4);
        faulty("120 of them", many(' ', 119) + "-", 120);
        faulty("none", "", 0);
    }

    private static void openParens() {
        for (int n = 1; n <= 8; n++) {
            takes(n + " ( are open", many('(', n) + "1" + many(')', n), 1);
        }
        faulty("the 9th (", many('(', 9) + "1" + many(')', 9), 8);
        faulty("the 9th (, its own place", many('(', 8) + "1+  (1", 12);
        faulty("the first of many", many('(', 120), 8);
        faulty("8 ( that end too early", many('(', 8), 8);
        faulty("8 ( that end too early", many('(', 8) + "1", 9);
    }

    private static void openMinus() {
        for (int n = 1; n <= 8; n++) {
            takes(n + " - are open", many('-', n) + "1", 1);
        }
        faulty("the 9th -", many('-', 9) + "1", 8);
        faulty("the first of many", many('-', 120), 8);
        faulty("8 - that end too early", many('-', 8), 8);
        takes("a - between TERMS isn't one of these", "1" + many('-', 9) + "1", 2);
        faulty("but the 9th behind it is", "1" + many('-', 10) + "1", 10);
    }

    private static void openBoth() {
        takes("4 of each", "-(-(-(-(1))))", 1);
        faulty("4 of each and a (", "-(-(-(-((1", 8);
        faulty("4 of each and a -", "-(-(-(-(-1", 8);
        takes("4 of each, and a - between TERMS", "-(-(-(-(1-1))))", 2);
        faulty("8 - and a (", many('-', 8) + "(1)", 8);
        faulty("8 ( and a -", many('(', 8) + "-1", 8);
        faulty("8 ( and a - behind *", many('(', 8) + "1*-1", 10);
        faulty("8 ( and a - behind <", many('(', 8) + "1<-1", 10);
    }

    private static void openEnds() {
        String deep = many('(', 8) + "1" + many(')', 8);
        takes("a ( till its )", deep + "+" + deep + "*" + deep, 3);
        takes("a ( till its )", many('(', 7) + "(1)+(1)" + many(')', 7), 2);
        takes("a - till its ONE ends", many('-', 8) + "1+" + many('-', 8) + "1", 2);
        takes("a - till its ONE ends", many('(', 7) + "-1*-1" + many(')', 7), 2);
        takes("a - till its ( ) ends", "-(1)+" + deep, 2);
        faulty("one more in the second", deep + "+(" + deep + ")", 26);
    }

    private static void sumsWrap() {
        String greatest = "(4096*4096*127+4096*4095+4095)";
        worth("the greatest int", greatest + "/9999/22", Integer.MAX_VALUE / 9999 / 22);
        worth("the greatest int and 1 are the least", "-((" + greatest + "+1)/9999/22)", Integer.MAX_VALUE / 9999 / 22);
        worth("the greatest int and 1 are below 0", greatest + "+1<0", 1);
        worth("the least int less 1 wraps", "(0-" + greatest + "-1)-1=" + greatest, 1);
        worth("the least int itself doesn't", "0-" + greatest + "-1<0", 1);
        worth("back again", greatest + "+1-1=" + greatest, 1);
        worth("twice the greatest is -2", "10+(" + greatest + "+" + greatest + ")", 8);
    }

    private static void productsWrap() {
        worth("2 to the 31st is below 0", "4096*4096*128<0", 1);
        worth("2 to the 30th isn't", "4096*4096*64<0", 0);
        worth("2 to the 32nd is 0", "4096*4096*256+5", 5);
        worth("9999 five times is below 0", "9999*9999*9999*9999*9999<0", 9999 * 9999 * 9999 * 9999 * 9999 < 0 ? 1 : 0);
        worth("9999 three times", "-(9999*9999*9999/9999/22)", -(9999 * 9999 * 9999 / 9999 / 22));
    }

    private static void minusWraps() {
        worth("- of the least int is itself", "-(4096*4096*128)<0", 1);
        worth("- of the least int is itself", "-(4096*4096*128)=4096*4096*128", 1);
        worth("- of one more isn't", "-(4096*4096*128+1)<0", 0);
        worth("- of 0", "-0", 0);
    }

    private static void quotientsWrap() {
        worth("the least int by -1 is itself", "4096*4096*128/-1=4096*4096*128", 1);
        worth("the least int by 1", "4096*4096*128/1=4096*4096*128", 1);
        worth("one more by -1", "0<(4096*4096*128+1)/-1", 1);
        worth("the least int by itself", "4096*4096*128/(4096*4096*128)", 1);
    }

    private static void byZero() {
        worth("by 0", "5/0", 0);
        worth("0 by 0", "0/0+3", 3);
        worth("below 0 by 0", "7+-5/0", 7);
        worth("the least int by 0", "4096*4096*128/0", 0);
        worth("by what is 0", "7/(3-3)+1", 1);
        worth("by a NAME that is 0", "7/d+2", 2);
        worth("it goes on", "7/0*5+4/2", 2);
    }

    private static void comparing() {
        String[] texts = {"1<2", "2<2", "3<2", "1=2", "2=2", "3=2", "-1<0", "0<-1", "-1=-1", "0=-0"};
        int[] due = {1, 0, 0, 0, 1, 0, 1, 0, 1, 1};
        for (int i = 0; i < texts.length; i++) {
            worth("1 or 0", texts[i], due[i]);
            worth("1 or 0", "5+(" + texts[i] + ")", 5 + due[i]);
        }
        worth("the least int is less", "4096*4096*128<4096*4096*127", 1);
        worth("no difference that wraps", "4096*4096*127<4096*4096*128", 0);
    }

    private static void priceIsHeld() {
        worth("PRICE 0", "0", 0);
        worth("PRICE below 0", "0-1", 0);
        worth("PRICE far below 0", "4096*4096*128", 0);
        worth("PRICE 9998", "9998", 9998);
        worth("PRICE 9999", "9999", 9999);
        worth("PRICE above", "9999+1", 9999);
        worth("PRICE far above", "4096*4096*127", 9999);
        worth("PRICE 101", "101", 101);
    }

    private static void refund(String text, int due) {
        FieldPitches x = new FieldPitches();
        x.party(0, 100, 0, 1);
        Due.holds("2: " + text + " is a text", Due.tell(x, 1, text) > 0);
        Due.due("2: REFUND by " + text, x.says(1, 0), due);
    }

    private static void refundIsHeld() {
        refund("0", 0);
        refund("0-1", 0);
        refund("4096*4096*128", 0);
        refund("1", 1);
        refund("99", 99);
        refund("100", 100);
        refund("101", 100);
        refund("9999", 100);
        refund("4096*4096*127", 100);
    }

    private static void refundWithoutText() {
        int[] ahead = {-1, 0, 1, 6, 7, 8, 90};
        int[] due = {0, 0, 50, 50, 100, 100, 100};
        for (int i = 0; i < ahead.length; i++) {
            FieldPitches x = new FieldPitches();
            x.party(0, 100, 0, 901);
            x.party(0, 100, 0, 9901);
            Edge.until(x, 9 - Math.min(9, ahead[i]));
            Due.due("2: REFUND for d of " + ahead[i], x.says(1, ahead[i] > 9 ? 1 : 0), due[i]);
        }
    }

    private static void paidOnce() {
        FieldPitches x = new FieldPitches();
        x.party(0, 100, 0, 1030);
        Due.tell(x, 0, "9999");
        Due.due("2: the most that can be PAID", x.pay(0), 299970);
        Due.due("2: it goes to THE TILL", x.count(3), 299970);
        Due.due("2: once", x.pay(0), Due.STATE);
        Due.tell(x, 0, "1");
        Due.due("2: what it came to then", x.partyOf(0, 8), 299970);
        for (int p = 1; p < 24; p++) {
            x.party(0, 100, 0, 1030);
        }
        Due.tell(x, 0, "9999");
        for (int p = 1; p < 24; p++) {
            x.pay(p);
        }
        Due.due("2: the most that THE TILL can hold", x.count(3), 24 * 299970);
        Due.tell(x, 1, "100");
        for (int p = 0; p < 24; p++) {
            Due.due("2: all of it", x.cancel(p), 299970);
        }
        Due.due("2: THE TILL is empty", x.count(3), 0);
    }

    /** PAID 11, and some hundredths of it. */
    private static void refundIsCut() {
        int[] hundredths = {0, 9, 10, 50, 90, 91, 99, 100};
        int[] due = {0, 0, 1, 5, 9, 10, 10, 11};
        for (int i = 0; i < hundredths.length; i++) {
            FieldPitches x = new FieldPitches();
            x.party(0, 100, 0, 1001);
            x.pay(0);
            Due.tell(x, 1, "" + hundredths[i]);
            Due.due("2: " + hundredths[i] + " hundredths of 11, cut", x.cancel(0), due[i]);
            Due.due("2: from THE TILL", x.count(3), 11 - due[i]);
        }
    }
}
