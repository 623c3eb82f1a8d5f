import java.lang.reflect.Constructor;
import java.lang.reflect.Field;
import java.lang.reflect.Method;
import java.lang.reflect.Modifier;
import java.util.ArrayList;
import java.util.List;
import java.util.TreeSet;

/** The document's public face, and LANGUAGE.md's rule 1: nothing else of the class can be seen from outside. */
public final class FaceTests {
    private static final String[] FACE = {
        "int type(int)", "int wipe()", "int undo()", "int fault()", "int person(int,int)",
        "int picture(int,int,int,int)", "int burn(int,int)", "int back(int)", "int faint(int)", "int want(int,int)",
        "int solid(int,int)", "int behind(int,int)", "int drawer(int,int)", "int took(int,int)", "int unseen(int)",
        "int whole(int,int,int,int,int)", "int feast(int,int)", "int spy(int,int,int)", "int swap(int,int)",
        "int seen(int,int,int)", "int forget()", "int read(int)", "int never()", "int sizes(int)",
        "int town(int,int,int)", "int toll(int,int)", "long shots(int,int,int,int,int,int)",
        "int plates(int,int,int)", "int sheet(int,int,int)", "int lose(int)", "int lay(int,int,int,int)",
        "int get(int,int,int)", "int copy(int,int,int,int,int)", "int write(int,int)", "int count(int)",
        "long digest()"};

    private static final Check check = new Check();

    public static void main(String[] args) throws Exception {
        face();
        constants();
        nestedClasses();
        check.end();
    }

    private static void face() throws Exception {
        check.holds("public and final", Modifier.isPublic(TakenShade.class.getModifiers())
                && Modifier.isFinal(TakenShade.class.getModifiers()));
        TreeSet<String> due = new TreeSet<>(List.of(FACE));
        TreeSet<String> got = new TreeSet<>();
        TreeSet<String> publicNames = new TreeSet<>();
        for (Method m : TakenShade.class.getDeclaredMethods()) {
            if (!Modifier.isPrivate(m.getModifiers())) {
                got.add(signature(m));
                publicNames.add(m.getName());
                check.holds(m.getName() + " is public", Modifier.isPublic(m.getModifiers()));
            }
        }
        check.holds("the face is " + due + ", not " + got, due.equals(got));
        for (Method m : TakenShade.class.getDeclaredMethods()) {
            check.holds(m.getName() + " is private and public",
                    !Modifier.isPrivate(m.getModifiers()) || !publicNames.contains(m.getName()));
        }
        Constructor<?>[] constructors = TakenShade.class.getDeclaredConstructors();
        check.holds("one public constructor", constructors.length == 1 && constructors[0].getParameterCount() == 0
                && Modifier.isPublic(constructors[0].getModifiers()));
    }

    private static void constants() throws Exception {
        TreeSet<String> names = new TreeSet<>();
        for (Field f : TakenShade.class.getDeclaredFields()) {
            if (!Modifier.isPrivate(f.getModifiers())) {
                names.add(f.getName());
                check.due(f.getName() + " is public static final",
                        f.getModifiers(), Modifier.PUBLIC | Modifier.STATIC | Modifier.FINAL);
                check.holds(f.getName() + " is an int", f.getType() == int.class);
            }
        }
        check.holds("constants " + names, names.equals(new TreeSet<>(List.of("NONE", "BAD", "NOT", "FULL"))));
        check.due("NONE", TakenShade.NONE, -1);
        check.due("BAD", TakenShade.BAD, -2);
        check.due("NOT", TakenShade.NOT, -3);
        check.due("FULL", TakenShade.FULL, -4);
    }

    private static String signature(Method m) {
        List<String> types = new ArrayList<>();
        for (Class<?> type : m.getParameterTypes()) {
            types.add(type.getName());
        }
        return m.getReturnType().getName() + " " + m.getName() + "(" + String.join(",", types) + ")";
    }

    private static void nestedClasses() {
        TreeSet<String> publicNames = new TreeSet<>();
        for (Method m : TakenShade.class.getMethods()) {
            publicNames.add(m.getName());
        }
        for (Class<?> c : TakenShade.class.getDeclaredClasses()) {
            for (Method m : c.getDeclaredMethods()) {
                check.holds(m + " bears a public one's name",
                        !Modifier.isPrivate(m.getModifiers()) || !publicNames.contains(m.getName()));
            }
            check.holds(c.getName() + " is static", Modifier.isStatic(c.getModifiers()));
            check.holds(c.getName() + " is neither public nor protected",
                    !Modifier.isPublic(c.getModifiers()) && !Modifier.isProtected(c.getModifiers()));
        }
    }
}
