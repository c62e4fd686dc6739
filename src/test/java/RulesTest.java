import java.lang.reflect.Constructor;
import java.lang.reflect.Field;
import java.lang.reflect.Method;
import java.lang.reflect.Modifier;
import java.nio.file.Files;
import java.nio.file.Path;
import java.util.ArrayList;
import java.util.Arrays;
import java.util.Collections;
import java.util.List;
import java.util.regex.Matcher;
import java.util.regex.Pattern;

/** The face of the document, and those rules of LANGUAGE.md that a program can look at. */
final class RulesTest {
    private static final String FACE = "pitch/4 pitchOf/2 shade/2 far/2 party/4 partyOf/2 why/2 near/2 put/2 nights/1 "
            + "who/2 gaps/1 plan/1 apart/0 feed/2 wipe/0 law/1 repeal/1 says/2 pay/1 cancel/1 review/2 stars/1 use/3 "
            + "limit/2 load/2 trips/1 may/4 wet/1 rescue/2 wash/2 block/2 dry/0 join/1 hold/2 as/2 sheet/3 write/3 "
            + "copy/5 image/0 undo/0 tear/0 count/1 status/1";

    private RulesTest() {
    }

    public static void main(String[] args) throws Exception {
        face();
        nested();
        source(Files.readString(Path.of("src/main/java/FieldPitches.java")));
        Due.end();
    }

    private static void face() {
        Class<?> c = FieldPitches.class;
        Due.holds("public and final", Modifier.isPublic(c.getModifiers()) && Modifier.isFinal(c.getModifiers()));
        List<String> open = new ArrayList<>();
        for (Method m : c.getDeclaredMethods()) {
            if (!Modifier.isPrivate(m.getModifiers())) {
                open.add(m.getName() + "/" + m.getParameterCount());
                Due.holds(m.getName() + " is public", Modifier.isPublic(m.getModifiers()));
                Due.holds(m.getName() + " isn't static", !Modifier.isStatic(m.getModifiers()));
                Due.holds(m.getName() + " answers an int", m.getReturnType() == int.class);
            }
        }
        List<String> due = new ArrayList<>(Arrays.asList(FACE.split(" ")));
        Collections.sort(open);
        Collections.sort(due);
        Due.holds("the face " + open, open.equals(due));
        Constructor<?>[] made = c.getDeclaredConstructors();
        Due.holds("one constructor", made.length == 1 && Modifier.isPublic(made[0].getModifiers())
                && made[0].getParameterCount() == 0);
        for (Field f : c.getDeclaredFields()) {
            Due.holds("field " + f.getName() + " is private", Modifier.isPrivate(f.getModifiers()));
        }
    }

    private static void nested() {
        Class<?>[] nested = FieldPitches.class.getDeclaredClasses();
        Due.holds("some twelve classes", nested.length <= 11);
        List<String> face = new ArrayList<>();
        for (String m : FACE.split(" ")) {
            face.add(m.split("/")[0]);
        }
        for (Class<?> c : nested) {
            Due.holds(c + " is static", Modifier.isStatic(c.getModifiers()));
            for (Method m : c.getDeclaredMethods()) {
                Due.holds(c + "." + m.getName() + " isn't named as the face is", !face.contains(m.getName()));
                Due.holds(c + "." + m.getName() + " has up to seven parameters", m.getParameterCount() <= 7);
            }
            int fields = 0;
            for (Field f : c.getDeclaredFields()) {
                boolean isStatic = Modifier.isStatic(f.getModifiers());
                fields += isStatic ? 0 : 1;
                Due.holds(c + "." + f.getName() + " is final if static", !isStatic || Modifier.isFinal(f.getModifiers()));
            }
            Due.holds(c + " has some twenty fields", fields <= 20);
        }
    }

    private static void source(String text) {
        String code = text.replaceAll("(?s)/\\*.*?\\*/", "").replaceAll("//[^\n]*", "");
        String[] forbidden = {"throw", "throws", "try", "catch", "synchronized", "assert", "import", "package", "native",
            "volatile", "transient", "hashCode", "toString", "Exact", "Random", "Thread", "Object", "goto", "final void"};
        for (String word : forbidden) {
            Due.holds("no '" + word + "'", !Pattern.compile("\\b" + word + "\\b").matcher(code).find());
        }
        Due.holds("no lambda or method reference", !code.contains("->") && !code.contains("::"));
        Due.holds("no text is joined by +", !code.contains("\""));
        Matcher library = Pattern.compile("\\b(Integer|Long|Math|System|Arrays|String|StringBuilder)\\.(\\w+)").matcher(code);
        List<String> allowed = List.of("Integer.bitCount", "Long.bitCount", "Math.abs", "Math.min", "Math.max", "System.arraycopy");
        while (library.find()) {
            Due.holds(library.group() + " is listed", allowed.contains(library.group()));
        }
        for (int i = 0; i < text.length(); i++) {
            Due.holds("signs are 1 to 127", text.charAt(i) >= 1 && text.charAt(i) <= 127);
        }
        methodsAreShort(code);
    }

    private static void methodsAreShort(String code) {
        String[] lines = code.split("\n");
        int begun = -1;
        String end = "";
        for (int i = 0; i < lines.length; i++) {
            boolean isHead = lines[i].matches(" {4,8}(public |private |static |final )*\\w+(\\[\\])* ?\\w*\\(.*\\{");
            if (isHead) {
                begun = i;
                end = lines[i].replaceAll("\\S.*", "") + "}";
            } else if (begun >= 0 && lines[i].equals(end)) {
                Due.holds(lines[begun].trim() + " is short", i - begun < 45);
                begun = -1;
            }
        }
    }
}
