/** Counts answers that are not as due, and ends a test with exit code 1 if there were any. */
final class Check {
    private int checked;
    private int wrong;

    void due(String call, long got, long want) {
        checked++;
        if (got != want) {
            wrong++;
            System.out.println(call + " answered " + got + ", due is " + want);
        }
    }

    void isNot(String call, long got, long unwanted) {
        checked++;
        if (got == unwanted) {
            wrong++;
            System.out.println(call + " answered " + got + ", which is not due");
        }
    }

    void holds(String what, boolean so) {
        due(what, so ? 1 : 0, 1);
    }

    int wrong() {
        return wrong;
    }

    void end() {
        System.out.println(checked + " answers looked at, " + wrong + " not as due");
        if (wrong != 0) {
            System.exit(1);
        }
    }

    /** A new object with people told. */
    static TakenShade people(String text) {
        TakenShade x = new TakenShade();
        typeAll(x, text);
        return x;
    }

    static void typeAll(TakenShade x, String text) {
        for (int i = 0; i < text.length(); i++) {
            x.type(text.charAt(i));
        }
    }
}
