import java.io.IOException;
import java.lang.reflect.Field;
import java.lang.reflect.Method;
import java.lang.reflect.Modifier;
import java.nio.file.Files;
import java.nio.file.Path;
import java.util.List;
import java.util.Set;
import java.util.TreeSet;
import java.util.regex.Matcher;
import java.util.regex.Pattern;

/** The face of the class, and those rules of LANGUAGE.md that can be seen in its text or by reflection. */
public final class LanguageTests {
    private static final Set<String> METHODS = new TreeSet<>(List.of(
        "member(int)", "act(int,int,int,int,int)", "handler(int,int,int,int,int)", "cut(int)", "price(int,int)", "verify(int)",
        "info(int,int)", "set(int,int)", "plan(int)", "argument(int,int,int)", "run(int,int)", "result(int)", "into(int)",
        "cell(int)", "counted(int)", "trace(int)", "left()", "walk(int,int)", "step(int)", "frame(int)", "register(int,int)",
        "drop()", "told(int)"));
    private static final Set<String> CONSTANTS = new TreeSet<>(List.of("UNKNOWN", "OUTSIDE", "NO", "FULL", "NONE", "STOPPED"));
    private static final String[] FORBIDDEN = {
        "\\bthrow\\b", "\\bthrows\\b", "\\btry\\b", "\\bcatch\\b", "\\bsynchronized\\b", "\\bassert\\b", "\\bimport\\b",
        "\\bpackage\\b", "\\bprotected\\b", "\\bvolatile\\b", "->", "::", "Exact\\b", "\\bObject\\b", "\\bSystem\\.(?!arraycopy\\b)",
        "\\bThread\\b", "\\bhashCode\\b", "\\btoString\\b", "static\\s*\\{"};
    private static int wrong = 0;

    private static void holds(String rule, boolean held) {
        if (!held) {
            wrong++;
            System.out.println("not so: " + rule);
        }
    }

    private static String signature(Method m) {
        StringBuilder s = new StringBuilder(m.getName()).append('(');
        for (Class<?> p : m.getParameterTypes()) s.append(s.charAt(s.length() - 1) == '(' ? "" : ",").append(p.getName());
        return s.append(')').toString();
    }

    private static void face() {
        Class<?> x = MarkedSteps.class;
        holds("public and final", Modifier.isPublic(x.getModifiers()) && Modifier.isFinal(x.getModifiers()));
        holds("one constructor, public, of nothing", x.getDeclaredConstructors().length == 1 && x.getConstructors().length == 1
            && x.getConstructors()[0].getParameterCount() == 0);
        Set<String> seen = new TreeSet<>();
        for (Method m : x.getDeclaredMethods()) {
            if (!Modifier.isPrivate(m.getModifiers())) {
                seen.add(signature(m));
                holds(m + " is public and answers an int", Modifier.isPublic(m.getModifiers()) && m.getReturnType() == int.class
                    && !Modifier.isStatic(m.getModifiers()));
            }
        }
        holds("the methods of the document and no other: " + seen, seen.equals(METHODS));
        seen.clear();
        for (Field f : x.getDeclaredFields()) {
            if (!Modifier.isPrivate(f.getModifiers())) seen.add(f.getName());
        }
        holds("the constants of the document and no other: " + seen, seen.equals(CONSTANTS));
    }

    private static void classes() {
        Class<?>[] inside = MarkedSteps.class.getDeclaredClasses();
        holds("some twelve classes", inside.length + 1 <= 12);
        oneClass(MarkedSteps.class);
        for (Class<?> c : inside) {
            holds(c + " is static and not public", Modifier.isStatic(c.getModifiers()) && !Modifier.isPublic(c.getModifiers()));
            oneClass(c);
            for (Method m : c.getDeclaredMethods()) {
                holds(m + " bears no name of the face", METHODS.stream().noneMatch(f -> f.startsWith(m.getName() + "(")));
            }
        }
    }

    private static void oneClass(Class<?> c) {
        int fields = 0;
        for (Field f : c.getDeclaredFields()) {
            if (Modifier.isStatic(f.getModifiers())) holds(f + " is final", Modifier.isFinal(f.getModifiers()));
            else fields++;
        }
        holds("some twenty fields in " + c, fields <= 20);
        for (Method m : c.getDeclaredMethods()) {
            holds("seven parameters of " + m, m.getParameterCount() <= 7);
            if (Modifier.isPrivate(m.getModifiers())) {
                holds(m + " bears no name of the face", METHODS.stream().noneMatch(f -> f.startsWith(m.getName() + "(")));
            }
        }
    }

    private static void text() throws IOException {
        Path file = Path.of(System.getProperty("project.root", "."), "src/main/java/MarkedSteps.java");
        String all = Files.readString(file);
        String code = all.replaceAll("(?s)/\\*.*?\\*/", "").replaceAll("//[^\n]*", "");
        for (String f : FORBIDDEN) {
            Matcher m = Pattern.compile(f).matcher(code);
            holds("no " + f, !m.find());
        }
        int start = -1;
        String[] lines = all.split("\n");
        for (int i = 0; i < lines.length; i++) {
            if (lines[i].matches("( {4}| {8})(public|private).*\\) \\{")) start = i;
            if (start >= 0 && lines[i].matches("( {4}| {8})\\}")) {
                holds("sixty lines: " + lines[start].trim(), i - start < 60);
                start = -1;
            }
        }
    }

    public static void main(String[] args) throws IOException {
        face();
        classes();
        text();
        System.out.println(wrong == 0 ? "all rules looked at are kept" : wrong + " rules are not kept");
        if (wrong != 0) System.exit(1);
    }
}
