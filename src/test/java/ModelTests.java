import java.lang.reflect.Method;
import java.util.ArrayList;
import java.util.Comparator;
import java.util.List;
import java.util.Random;

/** Seeded runs of calls; each answer of the class is held against the plain model's. */
public final class ModelTests {
    private static final int RUNS = 1500;
    private static final int CALLS = 120;

    private final Check check = new Check();
    private final Random random = new Random(20261118);
    private final List<Method> calls = new ArrayList<>();
    private TakenShade x;
    private PlainModel model;
    private int run;

    public static void main(String[] args) throws Exception {
        new ModelTests().go();
    }

    private void go() throws Exception {
        for (Method m : TakenShade.class.getDeclaredMethods()) {
            if (java.lang.reflect.Modifier.isPublic(m.getModifiers())) {
                calls.add(m);
            }
        }
        // Reflection tells methods in no fixed order; a seed needs one.
        calls.sort(Comparator.comparing(Method::getName));
        for (run = 0; run < RUNS && check.wrong() < 20; run++) {
            x = new TakenShade();
            model = new PlainModel();
            boolean isWild = run % 5 == 4;
            if (!isWild) {
                tellPeople();
                tellPictures();
                tellSeen();
            }
            for (int k = 0; k < CALLS; k++) {
                callAny(isWild);
            }
            compare("digest");
        }
        check.end();
    }

    private void tellPeople() throws Exception {
        int many = random.nextInt(8) + 1;
        boolean isThin = random.nextInt(3) == 0;
        for (int p = 0; p < many; p++) {
            if (p > 0) {
                compare("type", (int) ';');
            }
            compare("type", '0' + random.nextInt(isThin ? 3 : 10));
            compare("type", '0' + random.nextInt(10));
            compare("type", random.nextInt(3) == 0 ? '.' : 'a' + random.nextInt(Math.min(8, many + 1)));
        }
    }

    private void tellPictures() throws Exception {
        int years = random.nextInt(29) + 1;
        int persons = Math.min(8, model.count(0) + random.nextInt(2));
        int many = random.nextInt(13);
        for (int i = 0; i < many; i++) {
            compare("picture", random.nextInt(years), random.nextInt(persons), random.nextInt(9) + 1,
                    random.nextInt(4));
        }
        for (int i = random.nextInt(8); i > 0; i--) {
            compare("burn", random.nextInt(Math.min(30, years + 3)), random.nextInt(Math.max(1, many)));
        }
        for (int d = 0; d < 4; d++) {
            compare("want", d, random.nextInt(persons + 1) - 1);
        }
    }

    /** Mostly what comes out if one picture is of another size, so that never() and sizes() have something to tell. */
    private void tellSeen() throws Exception {
        for (int i = random.nextInt(4); i > 0; i--) {
            int year = random.nextInt(30);
            int person = random.nextInt(model.count(0));
            int solid = model.solid(year, person) + (random.nextInt(3) == 0 ? random.nextInt(5) : 0);
            compare("seen", year, person, Math.min(99, solid));
        }
    }

    private void callAny(boolean isWild) throws Exception {
        Method m = calls.get(random.nextInt(calls.size()));
        String name = m.getName();
        boolean isRare = name.equals("wipe") || name.equals("undo") || name.equals("type") || name.equals("forget")
                || name.equals("digest") || name.equals("toll");
        if (!isWild && isRare && random.nextInt(15) != 0) {
            return;
        }
        Object[] arguments = new Object[m.getParameterCount()];
        for (int i = 0; i < arguments.length; i++) {
            arguments[i] = argument(name, i, isWild);
        }
        compare(name, arguments);
    }

    private int argument(String name, int place, boolean isWild) {
        int kind = random.nextInt(isWild ? 12 : 60);
        if (kind == 0) {
            return random.nextInt();
        }
        if (kind == 1) {
            return new int[] {Integer.MIN_VALUE, Integer.MAX_VALUE, -2, -1, 100, 1000}[random.nextInt(6)];
        }
        int most = most(name, place);
        return random.nextInt(most + 2) - (kind == 2 || most < 4 && random.nextInt(4) == 0 ? 1 : 0);
    }

    /** About the most that an argument may be, so that most calls are no refusals. */
    private static int most(String name, int place) {
        switch (name) {
            case "type": return 127;
            case "person": return new int[] {7, 1}[place];
            case "picture": return new int[] {29, 7, 9, 3}[place];
            case "burn": return new int[] {29, 11}[place];
            case "faint": return 60;
            case "want": return new int[] {3, 7}[place];
            case "solid": return new int[] {29, 5}[place];
            case "behind": return new int[] {29, 2}[place];
            case "drawer": return new int[] {29, 3}[place];
            case "took": return new int[] {11, 1}[place];
            case "whole": return new int[] {29, 5, 80, 3, 1}[place];
            case "feast": return new int[] {29, 9}[place];
            case "spy": return new int[] {29, 5, 9}[place];
            case "swap": return new int[] {29, 2}[place];
            case "seen": return new int[] {29, 7, 99}[place];
            case "sizes": return 11;
            case "town": return new int[] {999, 300, 30}[place];
            case "toll": return new int[] {999, 99}[place];
            case "shots": return new int[] {16, 29, 7, 5, 9, 1}[place];
            case "plates": return new int[] {1000000, 29, 5}[place];
            case "sheet": return new int[] {3, 2, 60}[place];
            case "lay": return new int[] {3, 2, 30, 29}[place];
            case "get": return new int[] {3, 2, 30}[place];
            case "copy": return new int[] {3, 30, 3, 30, 30}[place];
            case "write": return new int[] {29, 3}[place];
            case "count": return 8;
            default: return 3;
        }
    }

    private void compare(String name, Object... arguments) throws Exception {
        Class<?>[] types = new Class<?>[arguments.length];
        java.util.Arrays.fill(types, int.class);
        StringBuilder call = new StringBuilder("run " + run + ": " + name + "(");
        for (int i = 0; i < arguments.length; i++) {
            call.append(i > 0 ? ", " : "").append(arguments[i]);
        }
        Number due = (Number) PlainModel.class.getDeclaredMethod(name, types).invoke(model, arguments);
        Number got = (Number) TakenShade.class.getDeclaredMethod(name, types).invoke(x, arguments);
        check.due(call.append(")").toString(), got.longValue(), due.longValue());
    }
}
