import java.lang.reflect.Constructor;
import java.lang.reflect.Field;
import java.lang.reflect.Method;
import java.lang.reflect.Modifier;
import java.nio.file.Files;
import java.nio.file.Path;
import java.util.ArrayList;
import java.util.List;
import java.util.Set;
import java.util.TreeSet;
import java.util.regex.Matcher;
import java.util.regex.Pattern;

/** What can be seen of the rules of LANGUAGE.md from the class and from its text. */
public final class SourceRulesTest {
    private static final String[] FACE = {
        "carcasses(int,int)", "weighs(int,int,int)", "put(int,int,int)", "man(int)", "skills(int,int)", "terms(int,int)",
        "feed(int,int,int,int,int)", "end(int)", "tree()", "fault()", "way(int,int)", "goes(int,int,int)", "cuttings(int)",
        "choice(int,int,int)", "left(int,int,int)", "best(int)", "plan(int)", "made(int,int)", "value(int)", "shorts(int)",
        "worth(int)", "change(int,int)", "give(int,int)", "given(int)", "task(int)", "share(int)",
        "box(int,int,int,int,int,int)", "of(int,int)", "row()", "spoilt()", "mix(int,int,int,int)",
        "send(int,int,int,int)", "again(int)", "recall(int,int)", "yields(int,int)", "drift(int,int,int)", "week(int)",
        "came(int,int)", "image(int)", "back(int)", "count(int)", "status()"};

    private static int wrong = 0;

    private static void need(boolean good, String what) {
        if (!good) {
            wrong++;
            System.out.println(what);
        }
    }

    private static void checkFace() {
        Set<String> due = new TreeSet<>(List.of(FACE));
        Set<String> got = new TreeSet<>();
        Set<String> names = new TreeSet<>();
        for (Method m : CutFloor.class.getDeclaredMethods()) {
            if (Modifier.isPrivate(m.getModifiers())) continue;
            StringBuilder b = new StringBuilder(m.getName()).append('(');
            for (Class<?> p : m.getParameterTypes()) b.append(b.charAt(b.length() - 1) == '(' ? "" : ",").append(p.getName());
            got.add(b.append(')').toString());
            names.add(m.getName());
            need(Modifier.isPublic(m.getModifiers()) && !Modifier.isStatic(m.getModifiers())
                    && m.getReturnType() == int.class && m.getExceptionTypes().length == 0, "not as the face says: " + m);
        }
        need(got.equals(due), "face: " + got);
        need(Modifier.isFinal(CutFloor.class.getModifiers()) && Modifier.isPublic(CutFloor.class.getModifiers()), "final, public");
        Constructor<?>[] made = CutFloor.class.getDeclaredConstructors();
        need(made.length == 1 && Modifier.isPublic(made[0].getModifiers()) && made[0].getParameterCount() == 0, "constructor");
        for (Field f : CutFloor.class.getDeclaredFields()) {
            need(Modifier.isPrivate(f.getModifiers()) || f.getName().equals("NONE"), "visible field " + f);
        }
        checkClass(CutFloor.class, names);
        Class<?>[] inside = CutFloor.class.getDeclaredClasses();
        need(inside.length < 12, "classes: " + inside.length);
        for (Class<?> c : inside) {
            need(Modifier.isStatic(c.getModifiers()) && !Modifier.isPublic(c.getModifiers())
                    && !Modifier.isProtected(c.getModifiers()), "class " + c);
            need(c.getDeclaredClasses().length == 0, "classes in " + c);
            checkClass(c, names);
        }
    }

    private static void checkClass(Class<?> c, Set<String> faceNames) {
        int fields = 0;
        for (Field f : c.getDeclaredFields()) {
            if (!Modifier.isStatic(f.getModifiers())) fields++;
            else need(Modifier.isFinal(f.getModifiers()) && f.getType().isPrimitive(), "static field " + f);
        }
        need(fields <= 20, c + " has " + fields + " fields");
        for (Method m : c.getDeclaredMethods()) {
            need(m.getParameterCount() <= 7, "parameters of " + m);
            need(c == CutFloor.class && !Modifier.isPrivate(m.getModifiers()) || !faceNames.contains(m.getName()),
                    "bears a name of the face: " + m);
        }
    }

    private static void checkText() throws java.io.IOException {
        String source = Files.readString(Path.of("src/main/java/CutFloor.java"));
        for (char sign : source.toCharArray()) need(sign == '\n' || sign >= 32 && sign < 127, "sign " + (int) sign);
        String code = source.replaceAll("(?s)/\\*.*?\\*/", "").replaceAll("//[^\n]*", "").replaceAll("\"[^\"\n]*\"", "\"\"");
        String[] banned = {"\\bthrow\\b", "\\bthrows\\b", "\\btry\\b", "\\bcatch\\b", "\\bsynchronized\\b", "\\bassert\\b",
            "->", "::", "\\binstanceof\\b", "\"\"\\s*\\+", "\\+\\s*\"\"", "\\bvar\\b", "\\bdouble\\b", "\\bfloat\\b", "Exact",
            "\\bpackage\\b", "\\bprotected\\b", "\\bSystem\\.(?!arraycopy)", "\\bArrays\\.(?!fill|copyOf\\b)",
            "\\bMath\\.(?!min|max)", "\\bInteger\\.", "\\bLong\\.", "\\bThread\\b", "\\bnative\\b", "while \\(true\\)", "for \\(;"};
        for (String b : banned) {
            Matcher m = Pattern.compile(b).matcher(code);
            need(!m.find(), "the text has " + b);
        }
        List<String> imports = new ArrayList<>();
        for (String line : source.split("\n")) {
            if (line.startsWith("import")) imports.add(line);
            need(line.length() <= 130, "long line: " + line);
        }
        need(imports.equals(List.of("import java.util.Arrays;")), "imports " + imports);
        checkLengths(source.split("\n"));
    }

    /** A method's head stands at one or two steps in, and its closing brace as far in. */
    private static void checkLengths(String[] lines) {
        for (int i = 0; i < lines.length; i++) {
            Matcher m = Pattern.compile("( {4}| {8})(\\w[^=;]*\\) \\{)").matcher(lines[i]);
            if (!m.matches() || m.group(2).matches("(if|for|while|switch|else|return)\\b.*")) continue;
            int end = i;
            while (end < lines.length && !lines[end].equals(m.group(1) + "}")) end++;
            need(end - i < 60, (end - i) + " lines: " + m.group(2));
        }
    }

    public static void main(String[] args) throws java.io.IOException {
        checkFace();
        checkText();
        System.out.println(wrong == 0 ? "the rules that can be seen are kept" : wrong + " rules broken");
        if (wrong != 0) System.exit(1);
    }
}
