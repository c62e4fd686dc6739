/**
 * A TEXT, read and valued in one go straight from its characters. The first FAULT ends the reading
 * by an exception of its own, so that nothing behind it can tell another one.
 */
final class ModelText {
    private static final String NAMES = "lankdo";

    /** The first byte that can't stand there; -1: none. */
    int fault = -1;
    int operands;
    int worth;

    private static final class Fault extends Exception {
        private static final long serialVersionUID = 1L;
    }

    private final String text;
    private final int[] values;
    private int at;
    private int open;

    ModelText(String text, int[] values) {
        this.text = text;
        this.values = values;
        try {
            worth = e();
            if (peek() != 0) {
                throw new Fault();
            }
        } catch (Fault f) {
            fault = at;
        }
    }

    /** The next character that is no blank; 0: the end (a byte 0 is told as 1, which is as bad). */
    private char peek() {
        while (at < text.length() && text.charAt(at) == ' ') {
            at++;
        }
        return at == text.length() ? 0 : text.charAt(at) == 0 ? 1 : text.charAt(at);
    }

    private int e() throws Fault {
        int left = sum();
        char c = peek();
        if (c == '<' || c == '=') {
            at++;
            int right = sum();
            return (c == '<' ? left < right : left == right) ? 1 : 0;
        }
        return left;
    }

    private int sum() throws Fault {
        int v = term();
        for (char c = peek(); c == '+' || c == '-'; c = peek()) {
            at++;
            int w = term();
            v = c == '+' ? v + w : v - w;
        }
        return v;
    }

    private int term() throws Fault {
        int v = one();
        for (char c = peek(); c == '*' || c == '/'; c = peek()) {
            at++;
            int w = one();
            v = c == '*' ? v * w : w == 0 ? 0 : v / w;
        }
        return v;
    }

    private int one() throws Fault {
        char c = peek();
        if ((c == '(' || c == '-') && open < 8) {
            at++;
            open++;
            int v = c == '-' ? -one() : e();
            if (c == '(') {
                if (peek() != ')') {
                    throw new Fault();
                }
                at++;
            }
            open--;
            return v;
        }
        String token = token();
        operands++;
        if (token.matches("0*[0-9]{1,4}")) {
            at += token.length();
            return new java.math.BigInteger(token).intValue();
        }
        if (token.length() == 1 && NAMES.contains(token)) {
            at++;
            return values[NAMES.indexOf(token)];
        }
        throw new Fault();
    }

    /** The WORD or NUMBER that begins here, as long as can be; empty: none does. */
    private String token() {
        String rest = text.substring(at);
        String word = rest.replaceAll("(?s)[^a-z].*", "");
        return word.isEmpty() ? rest.replaceAll("(?s)[^0-9].*", "") : word;
    }
}
