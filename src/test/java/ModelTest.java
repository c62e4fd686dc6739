import java.lang.reflect.Method;
import java.util.ArrayList;
import java.util.Arrays;
import java.util.Comparator;
import java.util.List;
import java.util.Random;

/** Runs of 512 calls by fixed seeds, held against Model call by call: all promises at once. */
final class ModelTest {
    private static final int CALLS = 512;
    private static final String[] SNIPPETS = {"l", "a", "n", "k", "d", "o", "7", "12", "0", "9999", "10000", "003",
        "+", "-", "*", "/", "(", ")", "<", "=", " ", "x", "ln", "A", "\u0000", "\u00ff", "-", "(", ")", "100"};

    /** What runs by turns call most often: a bit of all, plans, storms and power, sheets, texts and money. */
    private static final String[][] OFTEN = {
        {"put", "put", "plan", "rescue", "near", "nights", "review", "use", "cancel"},
        {"plan", "plan", "plan", "near", "near", "put", "apart", "gaps", "partyOf"},
        {"put", "put", "rescue", "rescue", "wet", "may", "may", "load", "trips", "use", "use", "nights", "review", "stars"},
        {"sheet", "write", "write", "write", "write", "copy", "copy", "join", "join", "join", "hold", "as", "wash", "block"},
        {"says", "says", "pay", "cancel", "put", "nights", "image", "undo", "count"},
    };

    private final int focus;
    private final Random random;
    private final FieldPitches real = new FieldPitches();
    private final Model model = new Model();
    private final List<Method> methods = new ArrayList<>();
    private final StringBuilder told = new StringBuilder();
    private final boolean isCrowded;
    private boolean isWrong;

    private ModelTest(long seed) {
        random = new Random(seed);
        focus = (int) (seed % OFTEN.length);
        isCrowded = focus == 1 || seed % 2 == 0;
        for (Method m : FieldPitches.class.getDeclaredMethods()) {
            if (java.lang.reflect.Modifier.isPublic(m.getModifiers())) {
                methods.add(m);
            }
        }
        methods.sort(Comparator.comparing(Method::getName));
    }

    public static void main(String[] args) throws Exception {
        int seeds = args.length > 0 ? Integer.parseInt(args[0]) : 150;
        for (int seed = 0; seed < seeds; seed++) {
            ModelTest test = new ModelTest(seed);
            Due.due("methods", test.methods.size(), 44);
            test.run();
            if (test.isWrong) {
                System.out.println("seed " + seed + "\n" + test.told);
                break;
            }
        }
        Due.end();
    }

    private void run() throws Exception {
        int calls = 0;
        for (int i = 0; i < 40; i++, calls++) {
            beginning(i);
        }
        while (calls < CALLS && !isWrong) {
            calls += random.nextInt(focus == 4 ? 6 : 40) == 0 ? text() : one();
        }
    }

    /** Some pitches and parties first, or most calls would find none. */
    private void beginning(int i) throws Exception {
        if (i % 3 == 0) {
            call("pitch", arguments("pitch", 4));
        } else {
            call("party", arguments("party", 4));
        }
        if (focus == 2) {
            call("put", new int[] {i * 2 / 3, upTo(11)});
            call("put", new int[] {i * 2 / 3, upTo(11)});
        }
    }

    private int one() throws Exception {
        Method m = methods.get(random.nextInt(methods.size()));
        String[] often = OFTEN[focus];
        String name = random.nextInt(3) != 0 ? often[random.nextInt(often.length)] : m.getName();
        if (name.equals("nights") && random.nextInt(focus == 1 ? 20 : 3) != 0) {
            name = "put";
        }
        call(name, arguments(name, parameters(name)));
        return 1;
    }

    private int text() throws Exception {
        StringBuilder text = new StringBuilder();
        int n = 1 + random.nextInt(random.nextInt(4) == 0 ? 30 : 9);
        boolean isOperand = true;
        for (int i = 0; i < n; i++) {
            if (random.nextInt(6) == 0) {
                text.append(SNIPPETS[random.nextInt(SNIPPETS.length)]);
            } else {
                text.append(isOperand ? SNIPPETS[random.nextInt(10)] : SNIPPETS[12 + random.nextInt(4)]);
                isOperand = !isOperand;
            }
        }
        int calls = 0;
        for (int i = 0; i < text.length(); i++, calls++) {
            call("feed", new int[] {text.charAt(i) + 256 * random.nextInt(), 1});
        }
        call("law", new int[] {random.nextInt(2)});
        return calls + 1;
    }

    private int parameters(String name) {
        for (Method m : methods) {
            if (m.getName().equals(name)) {
                return m.getParameterCount();
            }
        }
        throw new IllegalArgumentException(name);
    }

    private void call(String name, int[] a) throws Exception {
        if (isWrong) {
            return;
        }
        Class<?>[] types = new Class<?>[a.length];
        Object[] values = new Object[a.length];
        for (int i = 0; i < a.length; i++) {
            types[i] = int.class;
            values[i] = a[i];
        }
        Method m = FieldPitches.class.getDeclaredMethod(name, types);
        int got = (Integer) m.invoke(real, values);
        int want = model.call(name, a);
        String call = name + Arrays.toString(a);
        told.append(call).append(" -> ").append(got).append('\n');
        isWrong = got != want;
        Due.due(call, got, want);
        if (name.equals("plan") || name.equals("undo")) {
            comparePlaces(call);
        }
    }

    private void comparePlaces(String call) {
        for (int p = 0; p < model.peek("count", 2); p++) {
            int got = real.partyOf(p, 6);
            int want = model.peek("partyOf", p, 6);
            isWrong |= got != want;
            Due.due("the pitch of " + p + " after " + call, got, want);
        }
    }

    private int upTo(int most) {
        return random.nextInt(most + 1);
    }

    private int[] arguments(String name, int n) {
        int[] a = fitting(name);
        if (a == null) {
            a = new int[n];
            for (int i = 0; i < n; i++) {
                a[i] = upTo(4);
            }
        }
        if (n > 0 && random.nextInt(25) == 0) {
            int[] odd = {-1, -2, 0, 1, 7, 12, 24, 100, 10000, Integer.MAX_VALUE, Integer.MIN_VALUE, random.nextInt()};
            a[random.nextInt(n)] = odd[random.nextInt(odd.length)];
        }
        return a;
    }

    private int party() {
        return random.nextInt(8) == 0 ? upTo(24) : upTo(Math.max(1, model.peek("count", 2)) - 1);
    }

    /** PARTIES that a plan may be made for, as far as there are such; now and then any. */
    private int planned() {
        int set = 0;
        for (int i = 0; i < 40 && Integer.bitCount(set) < 1 + i % 4; i++) {
            int p = party();
            boolean isAny = random.nextInt(60) == 0;
            set |= isAny || model.peek("partyOf", p, 9) == 0 && model.peek("partyOf", p, 6) != -2 ? 1 << p : 0;
        }
        return set;
    }

    private int[] rescued(int water) {
        return new int[] {water, random.nextInt(4) == 0 ? -1 : oneOf(model.peek("wet", water))};
    }

    /** One of a set of PARTIES, if there is one; now and then any. */
    private int oneOf(int set) {
        int p = party();
        for (int i = 0; i < 60 && (set >> p & 1) == 0; i++) {
            p = party();
        }
        return p;
    }

    private int today() {
        return model.peek("count", 0) + upTo(2);
    }

    private int first() {
        return isCrowded ? Math.min(99, model.peek("count", 0) + 1 + upTo(9)) : upTo(99);
    }

    private int count() {
        return random.nextInt(3) == 0 ? 1 : 1 + upTo(isCrowded && focus != 2 ? 3 : 20);
    }

    /** Arguments that are mostly as told; null: small numbers do. */
    private int[] fitting(String name) {
        switch (name) {
            case "pitch": return new int[] {upTo(9999), 100 * (8 + upTo(22)) + upTo(99), 100 * upTo(9) + upTo(32),
                10 * (random.nextInt(2) == 0 ? 7 : upTo(7)) + upTo(3)};
            case "party": return new int[] {upTo(4), 100 * (1 + upTo(isCrowded ? 9 : 25)) + upTo(isCrowded ? 9 : 32),
                random.nextInt(2) == 0 ? 0 : upTo(7), 100 * (focus == 2 || random.nextInt(4) == 0 ? today() : first()) + count()};
            case "pitchOf": return new int[] {upTo(11), upTo(8)};
            case "shade": return new int[] {upTo(11), upTo(10)};
            case "far": return new int[] {upTo(11), upTo(11)};
            case "partyOf": return new int[] {party(), upTo(10)};
            case "why": case "put": return new int[] {party(), upTo(11)};
            case "near": return new int[] {party(), upTo(24) - 1};
            case "hold": return new int[] {upTo(9), upTo(24) - 1};
            case "nights": return new int[] {1 + upTo(random.nextInt(4) == 0 ? 50 : 3)};
            case "who": return new int[] {upTo(11), first()};
            case "gaps": return new int[] {upTo(12) - 1};
            case "plan": return new int[] {planned()};
            case "says": return new int[] {upTo(1), party()};
            case "pay": case "cancel": return new int[] {party()};
            case "review": return new int[] {party(), upTo(6)};
            case "stars": return new int[] {upTo(11)};
            default: return laterFitting(name);
        }
    }

    private int[] laterFitting(String name) {
        switch (name) {
            case "use": return new int[] {party(), upTo(0xFFFFFF) & upTo(0xFFFFFF), upTo(41)};
            case "limit": return new int[] {upTo(3), upTo(60)};
            case "load": return new int[] {upTo(3), upTo(24)};
            case "may": return new int[] {oneOf(model.peek("wet", 99)), upTo(24),
                1 + upTo(random.nextInt(2) == 0 ? 3 : 24), upTo(40)};
            case "wet": return new int[] {upTo(99)};
            case "rescue": return rescued(20 + upTo(70));
            case "wash": return new int[] {upTo(random.nextInt(2) == 0 ? 50 : 999), 1 + upTo(59)};
            case "block": return new int[] {1 + upTo(5), upTo(2)};
            case "as": return new int[] {upTo(9), upTo(4)};
            case "sheet": return new int[] {upTo(3), new int[] {8, 16, 16, 16, 16, 16, 32, 0}[upTo(7)],
                3 * (1 + upTo(1)) + (upTo(9) == 0 ? 1 : 0)};
            case "write": return new int[] {upTo(3), upTo(6), upTo(19) == 0 ? random.nextInt() : 65536 * upTo(1) + 1 + upTo(10)};
            case "copy": return new int[] {upTo(3), upTo(3), upTo(3), upTo(3), upTo(4)};
            case "count": return new int[] {upTo(8)};
            case "status": return new int[] {upTo(8) - 1};
            case "feed": return new int[] {random.nextInt(), upTo(5)};
            case "law": case "repeal": return new int[] {upTo(1)};
            case "trips": case "join": return new int[] {upTo(3)};
            default: return null;
        }
    }
}
