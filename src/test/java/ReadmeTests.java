import java.lang.reflect.Method;
import java.lang.reflect.Modifier;
import java.nio.charset.StandardCharsets;
import java.nio.file.Files;
import java.nio.file.Path;
import java.util.ArrayList;
import java.util.List;
import java.util.regex.Matcher;
import java.util.regex.Pattern;

/** README.md: its example answers as it says, and each call of the face stands on it with what it takes. */
public final class ReadmeTests {
    private static final Check check = new Check();

    public static void main(String[] args) throws Exception {
        String page = Files.readString(Path.of("README.md"), StandardCharsets.UTF_8);
        example(page);
        everyCall(page);
        check.end();
    }

    private static void example(String page) throws Exception {
        Matcher text = Pattern.compile("for \\(char c : \"([^\"]*)\"").matcher(page);
        boolean hasPeople = text.find();
        check.holds("the example has people", hasPeople);
        TakenShade x = Check.people(hasPeople ? text.group(1) : "");
        Matcher call = Pattern.compile("(?m)^x\\.(\\w+)\\(([^)]*)\\);\\s*// (-?\\d+):").matcher(page);
        int lines = 0;
        while (call.find()) {
            lines++;
            long got = ask(x, call.group(1), call.group(2));
            check.due("README's x." + call.group(1) + "(" + call.group(2) + ")", got, Long.parseLong(call.group(3)));
        }
        check.due("lines of the example that tell an answer", lines, countOf(page, "\nx."));
    }

    private static long ask(TakenShade x, String name, String list) throws Exception {
        List<Object> arguments = new ArrayList<>();
        for (String number : list.isEmpty() ? new String[0] : list.split(", ")) {
            arguments.add(Integer.parseInt(number));
        }
        Class<?>[] types = new Class<?>[arguments.size()];
        java.util.Arrays.fill(types, int.class);
        return ((Number) TakenShade.class.getMethod(name, types).invoke(x, arguments.toArray())).longValue();
    }

    private static int countOf(String page, String part) {
        return page.split(Pattern.quote(part), -1).length - 1;
    }

    private static void everyCall(String page) {
        for (Method m : TakenShade.class.getDeclaredMethods()) {
            if (Modifier.isPublic(m.getModifiers())) {
                Matcher row = Pattern.compile("(?m)^\\| `" + m.getName() + "\\(([^)]*)\\)` \\|").matcher(page);
                boolean stands = row.find();
                check.holds(m.getName() + " stands in README.md", stands);
                int takes = !stands || row.group(1).isEmpty() ? 0 : row.group(1).split(", ").length;
                check.due("what README.md says that " + m.getName() + " takes", takes, m.getParameterCount());
            }
        }
    }
}
