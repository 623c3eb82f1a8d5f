import java.lang.reflect.Method;
import java.util.List;

/**
 * "Refusals, the first that fits, in the order told at each act: BAD -2 (a number not as told, no such thing), NULL,
 * NOT -3 (as told), FULL -4, other FINDINGS. They change nothing (FINDINGS but count() 8)."
 *
 * <p>Every refusal of every call, each for its answer, for count() 8 and for what later calls show: two objects are
 * told alike, one of them gets the refused call, and then both must go on alike.
 */
public final class RefusalTests {
    private static final int BAD = TakenShade.BAD;
    private static final int NOT = TakenShade.NOT;
    private static final int FULL = TakenShade.FULL;
    private static final int NULL = -11;
    private static final int INDEX = -12;
    private static final int CAST = -13;
    private static final int STORE = -14;
    private static final int SIZE = -15;
    private static final int LEAST = Integer.MIN_VALUE;
    private static final int MOST = Integer.MAX_VALUE;

    /** A kind of argument: from least to most, both as told. */
    private record Kind(int least, int most) { }

    private static final Kind BYTE = new Kind(0, 255);
    private static final Kind YEAR = new Kind(0, 29);
    private static final Kind PERSON_NUMBER = new Kind(0, 7);
    private static final Kind PERSON_OR_NONE = new Kind(-1, 7);
    private static final Kind SIZE_OF_PICTURE = new Kind(1, 9);
    private static final Kind DRAWER = new Kind(0, 3);
    private static final Kind DRAWER_OR_NONE = new Kind(-1, 3);
    private static final Kind PICTURE_NUMBER = new Kind(0, 11);
    private static final Kind SOLID = new Kind(0, 99);
    private static final Kind TOWN = new Kind(1, 999);
    private static final Kind TOURISTS = new Kind(0, 999);
    private static final Kind GROWS = new Kind(0, 99);
    private static final Kind SIXTEENTHS = new Kind(0, 16);
    private static final Kind SHOTS = new Kind(1, 10);
    private static final Kind SHEET = new Kind(0, 3);
    private static final Kind FORM = new Kind(0, 2);
    private static final Kind ITEMS = new Kind(LEAST, 60);
    private static final Kind ANY = new Kind(LEAST, MOST);
    private static final Kind TWO = new Kind(0, 1);
    private static final Kind THREE = new Kind(0, 2);
    private static final Kind NINE = new Kind(0, 8);
    /** Persons, pictures that there are: how many, the state tells. */
    private static final Kind PERSON = new Kind(0, -1);
    private static final Kind PICTURE = new Kind(0, -1);

    private record Act(String name, Kind... kinds) { }

    private static final Act[] ACTS = {
        new Act("type", BYTE),
        new Act("person", PERSON, TWO),
        new Act("picture", YEAR, PERSON_NUMBER, SIZE_OF_PICTURE, DRAWER),
        new Act("burn", YEAR, PICTURE_NUMBER),
        new Act("back", TWO),
        new Act("faint", SOLID),
        new Act("want", DRAWER, PERSON_OR_NONE),
        new Act("solid", YEAR, PERSON),
        new Act("behind", YEAR, THREE),
        new Act("drawer", YEAR, DRAWER),
        new Act("took", PICTURE, TWO),
        new Act("unseen", TWO),
        new Act("whole", YEAR, PERSON, SOLID, DRAWER_OR_NONE, TWO),
        new Act("feast", YEAR, SIZE_OF_PICTURE),
        new Act("spy", YEAR, PERSON, SIZE_OF_PICTURE),
        new Act("swap", YEAR, THREE),
        new Act("seen", YEAR, PERSON_NUMBER, SOLID),
        new Act("read", SHEET),
        new Act("sizes", PICTURE),
        new Act("town", TOWN, TOURISTS, GROWS),
        new Act("toll", TOWN, GROWS),
        new Act("shots", SIXTEENTHS, YEAR, SHOTS, PERSON, SIZE_OF_PICTURE, TWO),
        new Act("plates", ANY, YEAR, PERSON),
        new Act("sheet", SHEET, FORM, ITEMS),
        new Act("lose", SHEET),
        new Act("lay", SHEET, FORM, ANY, ANY),
        new Act("get", SHEET, FORM, ANY),
        new Act("copy", SHEET, ANY, SHEET, ANY, ANY),
        new Act("write", YEAR, SHEET),
        new Act("count", NINE)};

    private static final Check check = new Check();

    public static void main(String[] args) throws Exception {
        everyCallIsLookedAt();
        numbersNotAsTold();
        numbersAsTold();
        notAndFull();
        lostSheets();
        otherFindings();
        firstThatFits();
        latestFinding();
        check.end();
    }

    /** Six calls take no argument and one of these (undo) refuses; all others are in the table. */
    private static void everyCallIsLookedAt() {
        int calls = 0;
        for (Method m : TakenShade.class.getDeclaredMethods()) {
            calls += java.lang.reflect.Modifier.isPublic(m.getModifiers()) && m.getParameterCount() > 0 ? 1 : 0;
        }
        check.due("calls with arguments", ACTS.length, calls);
    }

    // "BAD -2 (a number not as told, no such thing)": one below, one above, and the ends of the ints.
    private static void numbersNotAsTold() throws Exception {
        for (Setting setting : Setting.values()) {
            for (Act act : ACTS) {
                for (int place = 0; place < act.kinds.length; place++) {
                    Kind kind = kindIn(setting, act.kinds[place]);
                    for (long value : new long[] {kind.least - 1L, kind.most + 1L, LEAST, MOST}) {
                        boolean isOutside = value < kind.least || value > kind.most;
                        if (isOutside && value >= LEAST && value <= MOST) {
                            refused(setting, bad(act.name), act.name, with(setting, act, place, (int) value));
                        }
                    }
                }
            }
        }
    }

    // The last number on either side that is as told is no BAD, even where there is another refusal.
    private static void numbersAsTold() throws Exception {
        for (Setting setting : Setting.values()) {
            for (Act act : ACTS) {
                for (int place = 0; place < act.kinds.length && canBe(setting, act); place++) {
                    Kind kind = kindIn(setting, act.kinds[place]);
                    for (int value : new int[] {kind.least, kind.most}) {
                        Object[] arguments = with(setting, act, place, value);
                        TakenShade x = setting.make();
                        if (act.name.equals("get")) {
                            getIsNoBad(x, setting, arguments);
                        } else {
                            long got = call(x, act.name, arguments);
                            check.isNot(setting + " " + named(act.name, arguments), got, told(act.name, BAD));
                        }
                    }
                }
            }
        }
    }

    /** A get that is BAD finds nothing; one that is as told answers an item or finds something. */
    private static void getIsNoBad(TakenShade x, Setting setting, Object[] arguments) throws Exception {
        long got = call(x, "get", arguments);
        check.holds(setting + " " + named("get", arguments) + " is no BAD", got != LEAST || x.count(8) != 0);
    }

    private static Kind kindIn(Setting setting, Kind kind) {
        if (kind == PERSON) {
            return new Kind(0, setting.make().count(0) - 1);
        }
        return kind == PICTURE ? new Kind(0, setting.make().count(2) - 1) : kind;
    }

    /** Whether each argument has a number that is as told. */
    private static boolean canBe(Setting setting, Act act) {
        for (Kind kind : act.kinds) {
            if (kindIn(setting, kind).most < kindIn(setting, kind).least) {
                return false;
            }
        }
        return true;
    }

    /** Arguments all as told (where there can be such), but for one that is given. */
    private static Object[] with(Setting setting, Act act, int place, int value) {
        Object[] arguments = new Object[act.kinds.length];
        for (int i = 0; i < arguments.length; i++) {
            arguments[i] = Math.max(0, kindIn(setting, act.kinds[i]).least);
        }
        arguments[place] = value;
        return arguments;
    }

    // "NOT: there is none" of undo and back, FULL of type, picture, burn and seen.
    private static void notAndFull() throws Exception {
        refused(Setting.EMPTY, NOT, "undo");
        refused(Setting.EMPTY, NOT, "back", 0);
        refused(Setting.EMPTY, NOT, "back", 1);
        refused(Setting.FULL, FULL, "type", (int) ';');
        refused(Setting.FULL, FULL, "type", 0);
        refused(Setting.FULL, FULL, "type", 255);
        refused(Setting.FULL, FULL, "picture", 0, 0, 1, 0);
        refused(Setting.FULL, FULL, "picture", 29, 7, 9, 3);
        refused(Setting.FULL, FULL, "burn", 0, 0);
        refused(Setting.FULL, FULL, "burn", 29, 11);
        refused(Setting.FULL, FULL, "seen", 0, 0, 0);
        refused(Setting.FULL, FULL, "seen", 29, 7, 99);
    }

    // "1 NULL: the SHEET is LOST" of read, lose, lay, get, copy (either, both, one twice) and write.
    private static void lostSheets() throws Exception {
        for (Setting setting : Setting.values()) {
            refused(setting, NULL, "read", 3);
            refused(setting, NULL, "lose", 3);
            refused(setting, NULL, "lay", 3, 0, 0, 1);
            refusedGet(setting, NULL, 3, 2, 0);
            refused(setting, NULL, "copy", 3, 0, 3, 0, 0);
            refused(setting, NULL, "copy", 3, 0, 0, 0, 1);
            refused(setting, NULL, "copy", 0, 0, 3, 0, 1);
            refused(setting, NULL, "write", 0, 3);
        }
        for (int s = 0; s < 4; s++) {
            refused(Setting.EMPTY, NULL, "read", s);
            refused(Setting.EMPTY, NULL, "lose", s);
            refused(Setting.EMPTY, NULL, "write", 29, s);
        }
    }

    private static void otherFindings() throws Exception {
        for (Setting setting : new Setting[] {Setting.ORDINARY, Setting.FULL, Setting.FAULTY}) {
            for (int s = 0; s < 3; s++) {
                int items = lengthOf(setting, s);
                for (int i : new int[] {-1, items, LEAST, MOST}) {
                    refused(setting, INDEX, "lay", s, s, i, 1);
                    refusedGet(setting, INDEX, s, s, i);
                }
                for (int form = 0; form < 3; form++) {
                    if (form != s) {
                        refused(setting, CAST, "lay", s, form, 0, 1);
                        refusedGet(setting, CAST, s, form, 0);
                        refused(setting, STORE, "copy", s, 0, form, 0, 1);
                        refused(setting, STORE, "copy", s, 0, form, 0, 0);
                    }
                }
                refusedRuns(setting, s, items);
                refused(setting, SIZE, "sheet", s, s, -1);
                refused(setting, SIZE, "sheet", s, 2 - s, LEAST);
            }
            refused(setting, SIZE, "sheet", 3, 0, -1);
        }
    }

    // "INDEX: below 0, not so many", of the one and of the other sheet (here the same one).
    private static void refusedRuns(Setting setting, int s, int items) throws Exception {
        int[][] runs = {{-1, 0, 1}, {0, -1, 1}, {0, 0, -1}, {LEAST, 0, 0}, {0, LEAST, 0}, {0, 0, LEAST},
            {0, 0, items + 1}, {1, 0, items}, {0, 1, items}, {items, 0, 1}, {0, items, 1}, {MOST, 0, 1}, {0, MOST, 1},
            {0, 0, MOST}, {1, 0, MOST}, {0, 1, MOST}, {MOST, MOST, MOST}, {items + 1, 0, 0}, {0, items + 1, 0},
            {1, 1, LEAST}, {items, items, LEAST}, {2, 1, -1}};
        for (int[] run : runs) {
            refused(setting, INDEX, "copy", s, run[0], s, run[1], run[2]);
        }
    }

    private static int lengthOf(Setting setting, int s) {
        return setting.make().lose(s);
    }

    // Where two refusals fit at once.
    private static void firstThatFits() throws Exception {
        refused(Setting.FULL, BAD, "type", -1);
        refused(Setting.FULL, BAD, "type", 256);
        refused(Setting.FULL, BAD, "picture", 30, 0, 1, 0);
        refused(Setting.FULL, BAD, "picture", 0, 8, 1, 0);
        refused(Setting.FULL, BAD, "picture", 0, 0, 10, 0);
        refused(Setting.FULL, BAD, "picture", 0, 0, 1, 4);
        refused(Setting.FULL, BAD, "burn", 30, 0);
        refused(Setting.FULL, BAD, "burn", 0, 12);
        refused(Setting.FULL, BAD, "seen", 30, 0, 0);
        refused(Setting.FULL, BAD, "seen", 0, 8, 0);
        refused(Setting.FULL, BAD, "seen", 0, 0, 100);
        refused(Setting.EMPTY, BAD, "back", 2);
        refused(Setting.EMPTY, BAD, "back", -1);
        for (Setting setting : Setting.values()) {
            refused(setting, BAD, "write", 30, 3);
            refused(setting, BAD, "write", -1, 3);
            refused(setting, BAD, "lay", 3, 3, 0, 0);
            refused(setting, BAD, "lay", 3, -1, -1, 0);
            refused(setting, LEAST, "get", 3, 3, 0);
            refused(setting, LEAST, "get", 3, -1, -1);
            refused(setting, BAD, "copy", 4, 0, 3, 0, 0);
            refused(setting, BAD, "copy", 3, 0, 4, 0, 0);
            refused(setting, BAD, "copy", -1, -1, 3, -1, -1);
            refused(setting, BAD, "copy", 3, -1, -1, -1, -1);
            refused(setting, BAD, "sheet", 4, 0, -1);
            refused(setting, BAD, "sheet", -1, 0, LEAST);
            refused(setting, BAD, "sheet", 0, 3, -1);
            refused(setting, BAD, "sheet", 0, -1, -1);
            refused(setting, NULL, "lay", 3, 1, -1, 0);
            refusedGet(setting, NULL, 3, 1, -1);
            refused(setting, NULL, "copy", 3, -1, 0, 0, 1);
            refused(setting, NULL, "copy", 2, 0, 3, -1, -1);
        }
        for (Setting setting : new Setting[] {Setting.ORDINARY, Setting.FULL, Setting.FAULTY}) {
            refused(setting, BAD, "lay", 0, 3, -1, 0);
            refused(setting, CAST, "lay", 0, 1, -1, 0);
            refused(setting, CAST, "lay", 1, 2, 60, 0);
            refused(setting, LEAST, "get", 0, 3, -1);
            refusedGet(setting, CAST, 0, 1, -1);
            refusedGet(setting, CAST, 1, 2, 60);
            refused(setting, STORE, "copy", 0, -1, 1, 0, 1);
            refused(setting, STORE, "copy", 0, 0, 1, 61, 1);
            refused(setting, STORE, "copy", 2, 0, 1, 0, -1);
        }
    }

    // "8 the number of the latest FINDING (0 before any)"; BAD, NOT and FULL are no findings.
    private static void latestFinding() {
        TakenShade x = new TakenShade();
        check.due("before any", x.count(8), 0);
        x.undo();
        x.type(256);
        x.get(4, 0, 0);
        check.due("before any, behind BAD and NOT", x.count(8), 0);
        x.sheet(0, 0, -1);
        check.due("5 SIZE", x.count(8), 5);
        x.sheet(0, 0, 1);
        x.sheet(1, 1, 1);
        check.due("as it was, behind what is no refusal", x.count(8), 5);
        x.copy(0, 0, 1, 0, 0);
        check.due("4 STORE", x.count(8), 4);
        x.get(0, 1, 0);
        check.due("3 CAST", x.count(8), 3);
        x.get(0, 0, 1);
        check.due("2 INDEX", x.count(8), 2);
        x.get(2, 0, 0);
        check.due("1 NULL", x.count(8), 1);
        x.lay(0, 2, 0, 0);
        check.due("3 CAST again", x.count(8), 3);
        x.lay(0, 3, 0, 0);
        x.digest();
        x.count(9);
        check.due("as it was, behind BAD", x.count(8), 3);
    }

    // "Where the answer is a long, a refusal -x is the least long and x more."
    private static long told(String name, int refusal) {
        return name.equals("shots") ? Long.MIN_VALUE - refusal : refusal;
    }

    private static int bad(String name) {
        return name.equals("get") ? LEAST : BAD;
    }

    private static void refusedGet(Setting setting, int finding, int s, int form, int i) throws Exception {
        refusedFinding(setting, LEAST, -10 - finding, "get", s, form, i);
    }

    private static void refused(Setting setting, int due, String name, Object... arguments) throws Exception {
        boolean isFinding = due <= NULL && due >= SIZE;
        refusedFinding(setting, due, isFinding ? -10 - due : 0, name, arguments);
    }

    private static void refusedFinding(Setting setting, int due, int finding, String name, Object... arguments)
            throws Exception {
        String call = setting + " " + named(name, arguments);
        TakenShade x = setting.make();
        check.due(call, call(x, name, arguments), told(name, due));
        check.due(call + ": count(8)", x.count(8), finding);
        List<String> shown = Setting.takeApart(x);
        List<String> untouched = Setting.takeApart(setting.make());
        for (int i = 0; i < Math.min(shown.size(), untouched.size()); i++) {
            if (!shown.get(i).equals(untouched.get(i))) {
                check.holds(call + " changed: " + shown.get(i) + ", without it " + untouched.get(i), false);
                return;
            }
        }
        check.due(call + ": how much is shown", shown.size(), untouched.size());
    }

    private static long call(TakenShade x, String name, Object... arguments) throws Exception {
        Class<?>[] types = new Class<?>[arguments.length];
        java.util.Arrays.fill(types, int.class);
        return ((Number) TakenShade.class.getDeclaredMethod(name, types).invoke(x, arguments)).longValue();
    }

    private static String named(String name, Object... arguments) {
        StringBuilder call = new StringBuilder(name).append('(');
        for (int i = 0; i < arguments.length; i++) {
            call.append(i > 0 ? ", " : "").append(arguments[i]);
        }
        return call.append(')').toString();
    }
}
