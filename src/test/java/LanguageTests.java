import java.io.IOException;
import java.lang.reflect.Constructor;
import java.lang.reflect.Field;
import java.lang.reflect.Method;
import java.lang.reflect.Modifier;
import java.nio.file.Files;
import java.nio.file.Path;
import java.util.Set;
import java.util.TreeSet;
import java.util.regex.Matcher;
import java.util.regex.Pattern;

/** The face of the class, and those rules of LANGUAGE.md that can be seen from outside the code or by its words. */
public final class LanguageTests {
    private static final String[] FACE = {
        "feed(int)", "house()", "fault()", "told(int)", "member(int,int)", "strap(int,int)",
        "put(int)", "letOut(int)", "letGo(int)", "say(int,int,boolean,int)", "session()", "drift(int)", "undo(int)",
        "goes(int,int,int)", "matter(int,int)", "agenda(int,int)", "power(int,int)", "quiet(int,int)",
        "see(int,int)", "couldBe()", "next()", "write(int,int,int)", "judge()", "tear()",
        "seed(int)", "keep(int)", "goBack(int)",
    };
    private static final String[] BANNED = {
        "\\bthrow\\b", "\\btry\\b", "\\bcatch\\b", "\\bsynchronized\\b", "\\bassert\\b", "\\bimport\\b", "\\bpackage\\b",
        "->", "::", "\\w+Exact\\b", "\\bprotected\\b", "\\bstatic\\s*\\{", "\\bhashCode\\b", "\\btoString\\b",
        "\\bMath\\.(?!max\\b|min\\b|floorMod\\b)", "\\bSystem\\.(?!arraycopy\\b)", "\\bInteger\\.(?!bitCount\\b)", "\\bObject\\b",
    };

    public static void main(String[] args) throws IOException {
        constants();
        face();
        String code = withoutComments(Files.readString(Path.of("src/main/java/BoundBraces.java")));
        words(code);
        methods(code);
        Due.done();
    }

    private static void constants() {
        Due.is("NONE", BoundBraces.NONE, -1);
        Due.is("UNKNOWN", BoundBraces.UNKNOWN, -1000000001);
        Due.is("OUTSIDE", BoundBraces.OUTSIDE, -1000000002);
        Due.is("NOT", BoundBraces.NOT, -1000000003);
        Due.is("FULL", BoundBraces.FULL, -1000000004);
    }

    private static void face() {
        Set<String> want = new TreeSet<>(Set.of(FACE));
        Set<String> names = new TreeSet<>();
        for (String call : FACE) names.add(call.substring(0, call.indexOf('(')));
        for (Method m : BoundBraces.class.getDeclaredMethods()) {
            if (Modifier.isPrivate(m.getModifiers())) {
                Due.is("no private method is named " + m.getName(), names.contains(m.getName()) ? 1 : 0, 0);
                continue;
            }
            String call = signature(m);
            Due.is(call + " is of the face", want.remove(call) ? 1 : 0, 1);
            Due.is(call + " answers an int", m.getReturnType() == int.class ? 1 : 0, 1);
            Due.is(call + " is public and no more", m.getModifiers(), Modifier.PUBLIC);
        }
        Due.is("missing " + want, want.size(), 0);
        Constructor<?>[] made = BoundBraces.class.getDeclaredConstructors();
        Due.is("constructors", made.length, 1);
        Due.is("the constructor is public", made[0].getModifiers(), Modifier.PUBLIC);
        Due.is("the class is public and final", BoundBraces.class.getModifiers(), Modifier.PUBLIC | Modifier.FINAL);
        int open = 0;
        for (Field f : BoundBraces.class.getDeclaredFields()) {
            if (!Modifier.isPrivate(f.getModifiers())) open++;
            if (Modifier.isStatic(f.getModifiers())) {
                Due.is(f.getName() + " is final", Modifier.isFinal(f.getModifiers()) ? 1 : 0, 1);
            }
        }
        Due.is("constants of the face", open, 5);
        for (Class<?> inside : BoundBraces.class.getDeclaredClasses()) {
            Due.is(inside.getName() + " is static", Modifier.isStatic(inside.getModifiers()) ? 1 : 0, 1);
            Due.is(inside.getName() + " is not public", Modifier.isPublic(inside.getModifiers()) ? 1 : 0, 0);
            for (Method m : inside.getDeclaredMethods()) {
                Due.is(inside.getName() + "." + m.getName() + " is a name of its own", names.contains(m.getName()) ? 1 : 0, 0);
                Due.is(m.getName() + " takes seven at most", m.getParameterCount() <= 7 ? 1 : 0, 1);
            }
        }
        Due.is("classes inside", BoundBraces.class.getDeclaredClasses().length <= 12 ? 1 : 0, 1);
    }

    private static String signature(Method m) {
        StringBuilder b = new StringBuilder(m.getName()).append('(');
        for (Class<?> c : m.getParameterTypes()) {
            if (b.charAt(b.length() - 1) != '(') b.append(',');
            b.append(c.getName());
        }
        return b.append(')').toString();
    }

    private static String withoutComments(String code) {
        return code.replaceAll("(?s)/\\*.*?\\*/", "").replaceAll("//[^\n]*", "");
    }

    private static void words(String code) {
        for (String banned : BANNED) {
            Matcher m = Pattern.compile(banned).matcher(code);
            Due.is("stands in the code: " + banned, m.find() ? 1 : 0, 0);
        }
        for (int i = 0; i < code.length(); i++) {
            if (code.charAt(i) > 126) Due.is("a sign beyond 126 at " + i, code.charAt(i), 0);
        }
    }

    /** Methods stay under sixty lines: a method's body closes at the indent of its head. */
    private static void methods(String code) {
        String[] lines = code.split("\n");
        Pattern head = Pattern.compile("^( {4}| {8})(?!if|for|while|switch)\\w[\\w\\[\\] ]*\\(.*\\) \\{$");
        int found = 0;
        for (int i = 0; i < lines.length; i++) {
            Matcher m = head.matcher(lines[i]);
            if (!m.find()) continue;
            found++;
            int end = i;
            while (end < lines.length && !lines[end].equals(m.group(1) + "}")) end++;
            Due.is(lines[i].trim() + " is short", end - i < 60 ? 1 : 0, 1);
        }
        Due.is("methods were found", found > 60 ? 1 : 0, 1);
    }
}
