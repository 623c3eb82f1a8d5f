import java.util.ArrayList;
import java.util.List;

/**
 * States to begin from. Where a sheet is there, sheet 0 is of bytes, 1 of shorts and 2 of ints; sheet 3 is always lost.
 */
enum Setting {
    EMPTY, ORDINARY, FULL, FAULTY;

    /** Long enough for every item of these sheets; what an object is asked in all stays below 512 calls. */
    private static final int[] ITEMS = {60, 20, 9};

    TakenShade make() {
        TakenShade x = new TakenShade();
        switch (this) {
            case ORDINARY:
                tellSome(x);
                break;
            case FULL:
                tellAll(x);
                break;
            case FAULTY:
                tellSome(x);
                x.type('x');
                break;
            default:
                break;
        }
        return x;
    }

    private static void tellSome(TakenShade x) {
        Check.typeAll(x, "55b;25a;12.;40h");
        x.picture(0, 0, 9, 0);
        x.picture(1, 1, 7, 1);
        x.picture(7, 0, 8, 1);
        x.picture(8, 2, 5, 2);
        x.picture(8, 6, 5, 3);
        x.burn(5, 1);
        x.burn(9, 3);
        x.faint(20);
        x.want(0, 1);
        x.want(1, 0);
        x.want(3, 7);
        x.seen(3, 0, 46);
        x.seen(6, 1, 21);
        x.sheet(0, 0, 7);
        x.sheet(1, 1, 5);
        x.sheet(2, 2, 4);
        x.lay(0, 0, 0, -5);
        x.lay(1, 1, 4, 3000);
        x.lay(2, 2, 3, 70000);
    }

    private static void tellAll(TakenShade x) {
        Check.typeAll(x, "99b;98c;97d;96e;95f;94g;93h;92a");
        for (int i = 0; i < 12; i++) {
            x.picture(29 - 2 * i, i % 8, i % 9 + 1, i % 4);
            x.burn(2 * i + 7, i);
        }
        x.faint(99);
        for (int d = 0; d < 4; d++) {
            x.want(d, 7 - d);
        }
        for (int i = 0; i < 8; i++) {
            x.seen(i, i, 90 + i);
        }
        for (int s = 0; s < 3; s++) {
            x.sheet(s, s, ITEMS[s]);
            x.lay(s, s, 0, 77 + s);
            x.lay(s, s, ITEMS[s] - 1, -1 - s);
        }
    }

    /** What later calls show of everything that is held; it takes all of it apart. Findings are not shown. */
    static List<String> takeApart(TakenShade x) {
        List<String> shown = new ArrayList<>();
        for (int what = 0; what <= 7; what++) {
            shown.add("count(" + what + ") " + x.count(what));
        }
        shown.add("digest() " + x.digest());
        for (int s = 0; s < ITEMS.length; s++) {
            for (int i = 0; i < ITEMS[s]; i++) {
                shown.add("get(" + s + ", " + s + ", " + i + ") " + x.get(s, s, i));
            }
        }
        for (int s = 0; s < 4; s++) {
            shown.add("lose(" + s + ") " + x.lose(s));
            shown.add("want(" + s + ", 7) " + x.want(s, 7));
        }
        shown.add("forget() " + x.forget());
        int left;
        do {
            left = x.back(1);
            shown.add("back(1) " + left + " there " + x.behind(29, 1));
        } while (left > 0);
        do {
            left = x.back(0);
            shown.add("back(0) " + left + " there " + x.behind(29, 1) + " all " + x.behind(29, 2));
        } while (left > 0);
        do {
            left = x.undo();
            shown.add("undo() " + left + " fault " + x.fault());
        } while (left > 0);
        shown.add("type('0') " + x.type('0'));
        return shown;
    }
}
