import java.lang.reflect.Constructor;
import java.lang.reflect.Field;
import java.lang.reflect.Method;
import java.lang.reflect.Modifier;
import java.nio.charset.StandardCharsets;
import java.nio.file.Files;
import java.nio.file.Path;
import java.util.ArrayList;
import java.util.List;
import java.util.TreeSet;
import java.util.regex.Matcher;
import java.util.regex.Pattern;

/** The public face, and what can be seen of the language's rules from the source and the compiled class. */
public final class RulesTests {
    private static final String[] FACE = {
        "int type(int)", "int wipe()", "int undo()", "int fault()", "int person(int,int)",
        "int picture(int,int,int,int)", "int burn(int,int)", "int back(int)", "int faint(int)", "int want(int,int)",
        "int solid(int,int)", "int behind(int,int)", "int drawer(int,int)", "int took(int,int)", "int unseen(int)",
        "int whole(int,int,int,int,int)", "int feast(int,int)", "int spy(int,int,int)", "int swap(int,int)",
        "int seen(int,int,int)", "int forget()", "int read(int)", "int never()", "int sizes(int)",
        "int town(int,int,int)", "int toll(int,int)", "long shots(int,int,int,int,int,int)",
        "int plates(int,int,int)", "int sheet(int,int,int)", "int lose(int)", "int lay(int,int,int,int)",
        "int get(int,int,int)", "int copy(int,int,int,int,int)", "int write(int,int)", "int count(int)",
        "long digest()"};
    private static final String[] RULED_OUT = {"throw", "throws", "try", "catch", "finally", "synchronized", "assert",
        "package", "Random", "Thread", "Object", "hashCode", "toString", "\\w+Exact"};

    private static final Check check = new Check();

    public static void main(String[] args) throws Exception {
        face();
        nestedClasses();
        words();
        methodLengths();
        check.end();
    }

    private static void face() throws Exception {
        check.holds("public and final", Modifier.isPublic(TakenShade.class.getModifiers())
                && Modifier.isFinal(TakenShade.class.getModifiers()));
        TreeSet<String> due = new TreeSet<>(List.of(FACE));
        TreeSet<String> got = new TreeSet<>();
        TreeSet<String> publicNames = new TreeSet<>();
        for (Method m : TakenShade.class.getDeclaredMethods()) {
            if (!Modifier.isPrivate(m.getModifiers())) {
                got.add(signature(m));
                publicNames.add(m.getName());
                check.holds(m.getName() + " is public", Modifier.isPublic(m.getModifiers()));
            }
        }
        check.holds("the face is " + due + ", not " + got, due.equals(got));
        for (Method m : TakenShade.class.getDeclaredMethods()) {
            check.holds(m.getName() + " is private and public",
                    !Modifier.isPrivate(m.getModifiers()) || !publicNames.contains(m.getName()));
        }
        Constructor<?>[] constructors = TakenShade.class.getDeclaredConstructors();
        check.holds("one public constructor", constructors.length == 1 && constructors[0].getParameterCount() == 0
                && Modifier.isPublic(constructors[0].getModifiers()));
        TreeSet<String> fields = new TreeSet<>();
        for (Field f : TakenShade.class.getDeclaredFields()) {
            if (!Modifier.isPrivate(f.getModifiers())) {
                fields.add(f.getName());
            }
        }
        check.holds("constants " + fields, fields.equals(new TreeSet<>(List.of("NONE", "BAD", "NOT", "FULL"))));
    }

    private static String signature(Method m) {
        List<String> types = new ArrayList<>();
        for (Class<?> type : m.getParameterTypes()) {
            types.add(type.getName());
        }
        return m.getReturnType().getName() + " " + m.getName() + "(" + String.join(",", types) + ")";
    }

    private static void nestedClasses() {
        Class<?>[] inside = TakenShade.class.getDeclaredClasses();
        check.holds("some twelve classes at most", inside.length < 12);
        for (Class<?> c : inside) {
            check.holds(c.getName() + " is static", Modifier.isStatic(c.getModifiers()));
            check.holds(c.getName() + " is not public", !Modifier.isPublic(c.getModifiers()));
            int fields = 0;
            for (Field f : c.getDeclaredFields()) {
                boolean isStatic = Modifier.isStatic(f.getModifiers());
                fields += isStatic ? 0 : 1;
                check.holds(f + " is static and not final", !isStatic || Modifier.isFinal(f.getModifiers()));
            }
            check.holds(c.getName() + " has some twenty fields at most", fields <= 20);
            for (Method m : c.getDeclaredMethods()) {
                check.holds(m + " has seven parameters at most", m.getParameterCount() <= 7);
            }
        }
    }

    private static void words() throws Exception {
        String code = code();
        for (String word : RULED_OUT) {
            check.holds("no " + word, !Pattern.compile("\\b" + word + "\\b").matcher(code).find());
        }
        check.holds("no lambda, no method reference", !code.contains("->") && !code.contains("::"));
        Matcher imports = Pattern.compile("\\bimport\\s+([^;]+);").matcher(code);
        while (imports.find()) {
            check.holds("import of " + imports.group(1), imports.group(1).equals("java.util.Arrays"));
        }
    }

    /** The source without its comments, whose words are free. */
    private static String code() throws Exception {
        String source = Files.readString(Path.of("src/main/java/TakenShade.java"), StandardCharsets.ISO_8859_1);
        return source.replaceAll("(?s)/\\*.*?\\*/", "").replaceAll("//[^\n]*", "");
    }

    private static void methodLengths() throws Exception {
        int depth = 0;
        int start = 0;
        int line = 0;
        for (String text : code().split("\n")) {
            line++;
            boolean isHead = text.matches("    (    )?(public|private|[a-z]).*\\) \\{") && !text.contains(" class ");
            if (isHead && depth <= 2) {
                start = line;
            }
            depth += text.chars().map(c -> c == '{' ? 1 : c == '}' ? -1 : 0).sum();
            if (text.matches("    (    )?\\}")) {
                check.holds("a method of " + (line - start) + " lines ends at line " + line,
                        start == 0 || line - start <= 60);
                start = 0;
            }
        }
        check.holds("brackets", depth == 0);
    }
}
