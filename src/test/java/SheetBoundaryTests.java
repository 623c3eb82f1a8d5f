import java.math.BigInteger;

/** The boundary cases of sheets, counts and the digest: promises 30 to 37. A test for each sentence. */
public final class SheetBoundaryTests {
    private static final int NONE = TakenShade.NONE;
    private static final int BAD = TakenShade.BAD;
    private static final int NULL = -11;
    private static final int INDEX = -12;
    private static final int CAST = -13;
    private static final int STORE = -14;
    private static final int SIZE = -15;
    private static final int LEAST = Integer.MIN_VALUE;
    private static final int MOST = Integer.MAX_VALUE;

    private static final Check check = new Check();

    public static void main(String[] args) {
        itemsFrom0To60();
        zeroAtFirst();
        sheetRefuses();
        refusedSheetStays();
        loseEmptyAndFull();
        layLowestBits();
        layAndGetFirstAndLast();
        layAndGetRefuse();
        leastIntAsAnItem();
        copyWhole();
        copyNone();
        copyAsTheyWere();
        copyBetweenSheets();
        copyBetweenLengths();
        copyRefuses();
        writeAsManyAsThereAre();
        writeByForms();
        writeRefuses();
        countsAtTheirMost();
        countRefuses();
        digestThatWraps();
        digestOfEachPart();
        digestOfSwaps();
        check.end();
    }

    private static void due(String call, long got, long want) {
        check.due(call, got, want);
    }

    /** A sheet with the numbers from a first one on. */
    private static void fill(TakenShade x, int s, int form, int items, int first) {
        x.sheet(s, form, items);
        for (int i = 0; i < items; i++) {
            x.lay(s, form, i, first + i);
        }
    }

    private static void row(String call, TakenShade x, int s, int form, int... items) {
        int found = x.count(8);
        for (int i = 0; i < items.length; i++) {
            due(call + ": item " + i, x.get(s, form, i), items[i]);
        }
        due(call + ": no finding", x.count(8), found);
        due(call + ": no more", x.get(s, form, items.length), LEAST);
        due(call + ": no more", x.count(8), 2);
    }

    // "SHEETS 0 .. 3 ... 0 bytes, 1 shorts, 2 ints, of 0 to 60 items"; promise 30: "n".
    private static void itemsFrom0To60() {
        for (int s = 0; s < 4; s++) {
            for (int form = 0; form < 3; form++) {
                for (int n : new int[] {0, 1, 59, 60}) {
                    TakenShade x = new TakenShade();
                    String call = "sheet(" + s + ", " + form + ", " + n + ")";
                    due("30 " + call, x.sheet(s, form, n), n);
                    due("31 " + call, x.lose(s), n);
                }
            }
        }
    }

    // "(0 at first)", of a row that is new in place of another too.
    private static void zeroAtFirst() {
        TakenShade x = new TakenShade();
        x.sheet(0, 0, 60);
        for (int i = 0; i < 60; i++) {
            due("30 item " + i, x.get(0, 0, i), 0);
        }
        fill(x, 0, 0, 60, 1);
        x.sheet(0, 2, 60);
        for (int i = 0; i < 60; i++) {
            due("30 anew, item " + i, x.get(0, 2, i), 0);
        }
        x.lay(0, 2, 0, 5);
        x.lose(0);
        x.sheet(0, 2, 1);
        due("30 behind a loss", x.get(0, 2, 0), 0);
    }

    // Promise 30: "BAD: SHEET, FORM, above 60; SIZE."
    private static void sheetRefuses() {
        TakenShade x = new TakenShade();
        for (int s : new int[] {-1, 4, LEAST, MOST}) {
            due("30 sheet " + s, x.sheet(s, 0, 1), BAD);
            due("30 sheet " + s + ", though below 0", x.sheet(s, 0, -1), BAD);
        }
        for (int form : new int[] {-1, 3, LEAST, MOST}) {
            due("30 form " + form, x.sheet(0, form, 1), BAD);
            due("30 form " + form + ", though below 0", x.sheet(0, form, -1), BAD);
        }
        for (int n : new int[] {61, MOST}) {
            due("30 items " + n, x.sheet(0, 0, n), BAD);
        }
        due("30 no finding", x.count(8), 0);
        due("30 -1 items", x.sheet(0, 0, -1), SIZE);
        due("30 found", x.count(8), 5);
        due("30 the least int", x.sheet(0, 0, LEAST), SIZE);
        due("30 still lost", x.lose(0), NULL);
    }

    private static void refusedSheetStays() {
        TakenShade x = new TakenShade();
        fill(x, 2, 1, 3, 1000);
        x.sheet(2, 0, -1);
        x.sheet(2, 0, 61);
        x.sheet(2, 3, 1);
        due("30 as it was", x.get(2, 1, 2), 1002);
        due("30 as long as it was", x.lose(2), 3);
    }

    // Promise 31: "how many items it had. BAD; NULL."
    private static void loseEmptyAndFull() {
        TakenShade x = new TakenShade();
        for (int s = 0; s < 4; s++) {
            due("31 lost at first", x.lose(s), NULL);
            x.sheet(s, 0, 0);
            due("31 of no items", x.lose(s), 0);
            due("31 lost", x.lose(s), NULL);
            x.sheet(s, 2, 60);
            due("31 of sixty", x.lose(s), 60);
            due("31 lost again", x.lose(s), NULL);
        }
        due("31 found", x.count(8), 1);
        x.sheet(0, 0, -1);
        for (int s : new int[] {-1, 4, LEAST, MOST}) {
            due("31 sheet " + s, x.lose(s), BAD);
        }
        due("31 no finding", x.count(8), 5);
    }

    // Promise 32: "becomes v (the lowest bits that it has): 1."
    private static void layLowestBits() {
        TakenShade x = new TakenShade();
        int[][] bytes = {{127, 127}, {128, -128}, {255, -1}, {256, 0}, {257, 1}, {-1, -1}, {-128, -128}, {-129, 127},
            {LEAST, 0}, {MOST, -1}};
        int[][] shorts = {{32767, 32767}, {32768, -32768}, {65535, -1}, {65536, 0}, {65537, 1}, {-1, -1},
            {-32768, -32768}, {-32769, 32767}, {LEAST, 0}, {MOST, -1}, {128, 128}};
        int[][] ints = {{LEAST, LEAST}, {MOST, MOST}, {-1, -1}, {65536, 65536}, {32768, 32768}, {256, 256}};
        int[][][] rows = {bytes, shorts, ints};
        for (int form = 0; form < 3; form++) {
            x.sheet(form, form, 1);
            for (int[] pair : rows[form]) {
                due("32 form " + form + ", " + pair[0], x.lay(form, form, 0, pair[0]), 1);
                due("33 form " + form + ", " + pair[0], x.get(form, form, 0), pair[1]);
            }
        }
    }

    // "2 INDEX: there is no such item": the first and the last one that there is, and those beside them.
    private static void layAndGetFirstAndLast() {
        for (int n : new int[] {0, 1, 2, 60}) {
            TakenShade x = new TakenShade();
            x.sheet(1, 1, n);
            if (n > 0) {
                due("32 the last of " + n, x.lay(1, 1, n - 1, 300), 1);
                due("32 the first of " + n, x.lay(1, 1, 0, 200), 1);
                due("33 the last of " + n, x.get(1, 1, n - 1), n == 1 ? 200 : 300);
                due("33 the first of " + n, x.get(1, 1, 0), 200);
            }
            due("no finding yet", x.count(8), 0);
            for (int i : new int[] {-1, n, n + 1, LEAST, MOST}) {
                due("32 item " + i + " of " + n, x.lay(1, 1, i, 7), INDEX);
                due("32 finding", x.count(8), 2);
                x.lose(3);
                due("33 item " + i + " of " + n, x.get(1, 1, i), LEAST);
                due("33 finding", x.count(8), 2);
            }
        }
    }

    // Promise 32: "BAD; NULL; CAST; INDEX."; promise 33: "BAD: the least int; so are NULL, CAST, INDEX (count() 8
    // tells)."
    private static void layAndGetRefuse() {
        TakenShade x = new TakenShade();
        fill(x, 0, 0, 2, 11);
        for (int s : new int[] {-1, 4, LEAST, MOST}) {
            due("32 sheet " + s, x.lay(s, 0, 0, 5), BAD);
            due("33 sheet " + s, x.get(s, 0, 0), LEAST);
        }
        for (int form : new int[] {-1, 3, LEAST, MOST}) {
            due("32 form " + form, x.lay(0, form, 0, 5), BAD);
            due("33 form " + form, x.get(0, form, 0), LEAST);
            due("32 form " + form + " of a lost one", x.lay(1, form, 0, 5), BAD);
            due("33 form " + form + " of a lost one", x.get(1, form, 0), LEAST);
        }
        due("no finding", x.count(8), 0);
        due("32 lost, whatever the item", x.lay(1, 0, -1, 5), NULL);
        x.sheet(2, 0, -1);
        due("33 lost, whatever the item", x.get(1, 0, -1), LEAST);
        due("33 NULL", x.count(8), 1);
        due("32 another form, whatever the item", x.lay(0, 1, 2, 5), CAST);
        due("32 CAST", x.count(8), 3);
        x.get(1, 0, 0);
        due("33 another form, whatever the item", x.get(0, 2, -1), LEAST);
        due("33 CAST", x.count(8), 3);
        due("33 no such item", x.get(0, 0, 2), LEAST);
        due("33 INDEX", x.count(8), 2);
        row("as it was", x, 0, 0, 11, 12);
    }

    // The least int may be an item too; then nothing is found.
    private static void leastIntAsAnItem() {
        TakenShade x = new TakenShade();
        x.sheet(3, 2, 1);
        x.lay(3, 2, 0, LEAST);
        due("33 the item", x.get(3, 2, 0), LEAST);
        due("33 no finding", x.count(8), 0);
    }

    // Promise 34: all items at once, of none to sixty.
    private static void copyWhole() {
        for (int n : new int[] {0, 1, 60}) {
            TakenShade x = new TakenShade();
            fill(x, 0, 2, n, 1000);
            x.sheet(3, 2, n);
            due("34 all of " + n, x.copy(0, 0, 3, 0, n), 1);
            for (int i = 0; i < n; i++) {
                due("34 item " + i + " of " + n, x.get(3, 2, i), 1000 + i);
            }
            due("34 one more than " + n, x.copy(0, 0, 3, 0, n + 1), INDEX);
        }
    }

    // No items: from each place to the end itself, but not behind it.
    private static void copyNone() {
        TakenShade x = new TakenShade();
        fill(x, 0, 0, 3, 1);
        fill(x, 1, 0, 2, 11);
        for (int i = 0; i <= 3; i++) {
            for (int j = 0; j <= 2; j++) {
                due("34 none from " + i + " to " + j, x.copy(0, i, 1, j, 0), 1);
            }
        }
        due("34 no finding", x.count(8), 0);
        due("34 none from behind the end", x.copy(0, 4, 1, 0, 0), INDEX);
        due("34 none to behind the end", x.copy(0, 0, 1, 3, 0), INDEX);
        due("34 none from below 0", x.copy(0, -1, 1, 0, 0), INDEX);
        due("34 none to below 0", x.copy(0, 0, 1, -1, 0), INDEX);
        row("34 nothing came", x, 1, 0, 11, 12);
        row("34 nothing went", x, 0, 0, 1, 2, 3);
    }

    // "come to SHEET t (perhaps s, as they were)"
    private static void copyAsTheyWere() {
        TakenShade up = new TakenShade();
        fill(up, 0, 1, 5, 1);
        due("34 up by one", up.copy(0, 0, 0, 1, 4), 1);
        row("34 up by one", up, 0, 1, 1, 1, 2, 3, 4);
        TakenShade down = new TakenShade();
        fill(down, 0, 1, 5, 1);
        due("34 down by one", down.copy(0, 1, 0, 0, 4), 1);
        row("34 down by one", down, 0, 1, 2, 3, 4, 5, 5);
        TakenShade same = new TakenShade();
        fill(same, 0, 1, 5, 1);
        due("34 to where they are", same.copy(0, 0, 0, 0, 5), 1);
        row("34 to where they are", same, 0, 1, 1, 2, 3, 4, 5);
    }

    private static void copyBetweenSheets() {
        for (int form = 0; form < 3; form++) {
            TakenShade x = new TakenShade();
            fill(x, 1, form, 4, 1);
            fill(x, 2, form, 3, 11);
            due("34 the last to the first", x.copy(1, 3, 2, 0, 1), 1);
            due("34 the first to the last", x.copy(1, 0, 2, 2, 1), 1);
            row("34 came", x, 2, form, 4, 12, 1);
            row("34 stayed", x, 1, form, 1, 2, 3, 4);
        }
    }

    // "INDEX: ... not so many", in the one or in the other: a short sheet and a long one, each way.
    private static void copyBetweenLengths() {
        for (int from = 0; from < 2; from++) {
            for (int i = 0; i <= 7; i++) {
                for (int j = 0; j <= 7; j++) {
                    for (int n = 0; n <= 7; n++) {
                        copyOne(from, i, j, n);
                    }
                }
            }
        }
    }

    private static void copyOne(int from, int i, int j, int n) {
        int[] lengths = {2, 6};
        TakenShade x = new TakenShade();
        fill(x, 0, 1, lengths[0], 100);
        fill(x, 1, 1, lengths[1], 200);
        int to = 1 - from;
        boolean fits = i + n <= lengths[from] && j + n <= lengths[to];
        String call = "34 copy(" + from + ", " + i + ", " + to + ", " + j + ", " + n + ")";
        due(call, x.copy(from, i, to, j, n), fits ? 1 : INDEX);
        for (int k = 0; k < lengths[to]; k++) {
            boolean came = fits && k >= j && k < j + n;
            due(call + ": item " + k, x.get(to, 1, k), came ? 100 + 100 * from + i + k - j : 100 + 100 * to + k);
        }
        for (int k = 0; k < lengths[from]; k++) {
            due(call + ": its own item " + k, x.get(from, 1, k), 100 + 100 * from + k);
        }
    }

    // "BAD: the SHEETS; NULL: s, t; STORE; INDEX: below 0, not so many."
    private static void copyRefuses() {
        TakenShade x = new TakenShade();
        fill(x, 0, 0, 3, 1);
        fill(x, 1, 1, 3, 11);
        for (int s : new int[] {-1, 4, LEAST, MOST}) {
            due("34 s " + s, x.copy(s, 0, 0, 0, 1), BAD);
            due("34 t " + s, x.copy(0, 0, s, 0, 1), BAD);
            due("34 s " + s + ", t lost", x.copy(s, 0, 3, 0, 1), BAD);
            due("34 t " + s + ", s lost", x.copy(3, 0, s, 0, 1), BAD);
        }
        due("34 no finding", x.count(8), 0);
        due("34 s lost", x.copy(3, 0, 0, 0, 1), NULL);
        due("34 t lost", x.copy(0, 0, 3, 0, 1), NULL);
        due("34 both lost", x.copy(2, 0, 3, 0, 1), NULL);
        due("34 lost, whatever the items", x.copy(3, -1, 0, 9, -1), NULL);
        due("34 NULL", x.count(8), 1);
        due("34 unlike forms", x.copy(0, 0, 1, 0, 1), STORE);
        due("34 unlike forms, the other way", x.copy(1, 0, 0, 0, 1), STORE);
        due("34 unlike forms, whatever the items", x.copy(1, -1, 0, 9, -1), STORE);
        due("34 STORE", x.count(8), 4);
        int[][] runs = {{-1, 0, 1}, {0, -1, 1}, {0, 0, -1}, {3, 0, 1}, {0, 3, 1}, {0, 0, 4}, {2, 0, 2}, {0, 2, 2},
            {MOST, 0, 1}, {0, MOST, 1}, {1, 0, MOST}, {0, 1, MOST}, {MOST, MOST, MOST}, {LEAST, 0, 1}, {0, LEAST, 1},
            {0, 0, LEAST}, {LEAST, LEAST, LEAST}, {3, 3, LEAST}};
        for (int[] run : runs) {
            due("34 from " + run[0] + " to " + run[1] + ", " + run[2], x.copy(0, run[0], 0, run[1], run[2]), INDEX);
            due("34 INDEX", x.count(8), 2);
        }
        row("34 as it was", x, 0, 0, 1, 2, 3);
        row("34 as it was", x, 1, 1, 11, 12, 13);
    }

    // Promise 35: "as many as there are items and PERSONS: how many."
    private static void writeAsManyAsThereAre() {
        String eight = "99.;98.;97.;96.;95.;94.;93.;92.";
        for (int persons = 0; persons <= 8; persons++) {
            for (int items = 0; items <= 9; items++) {
                TakenShade x = Check.people(eight.substring(0, Math.max(0, 4 * persons - 1)));
                fill(x, 0, 0, items, 11);
                int many = Math.min(persons, items);
                due("35 " + persons + " to " + items, x.write(29, 0), many);
                for (int i = 0; i < items; i++) {
                    due("35 " + persons + " to " + items + ", item " + i, x.get(0, 0, i), i < many ? 99 - i : 11 + i);
                }
            }
        }
        TakenShade sixty = Check.people(eight);
        sixty.sheet(3, 2, 60);
        due("35 to sixty", sixty.write(0, 3), 8);
        TakenShade faulty = Check.people("50.;");
        faulty.sheet(0, 0, 5);
        due("35 with a fault nobody", faulty.write(0, 0), 0);
        due("35 nothing is written", faulty.get(0, 0, 0), 0);
    }

    private static void writeByForms() {
        TakenShade x = Check.people("99.;00.");
        x.picture(29, 0, 9, 0);
        for (int form = 0; form < 3; form++) {
            fill(x, form, form, 2, 5);
            due("35 behind year 28", x.write(28, form), 2);
            row("35 behind year 28, form " + form, x, form, form, 99, 0);
            due("35 behind year 29", x.write(29, form), 2);
            row("35 behind year 29, form " + form, x, form, form, 90, 0);
        }
    }

    // Promise 35: "BAD; NULL."
    private static void writeRefuses() {
        TakenShade x = Check.people("50.");
        fill(x, 0, 0, 1, 7);
        for (int year : new int[] {-1, 30, LEAST, MOST}) {
            due("35 year " + year, x.write(year, 0), BAD);
            due("35 year " + year + " to a lost one", x.write(year, 1), BAD);
        }
        for (int s : new int[] {-1, 4, LEAST, MOST}) {
            due("35 sheet " + s, x.write(0, s), BAD);
        }
        due("35 no finding", x.count(8), 0);
        for (int s = 1; s < 4; s++) {
            due("35 lost " + s, x.write(29, s), NULL);
        }
        due("35 found", x.count(8), 1);
        due("35 as it was", x.get(0, 0, 0), 7);
    }

    // Promise 36: each count at its most.
    private static void countsAtTheirMost() {
        TakenShade x = Check.people("99b;99c;99d;99e;99f;99g;99h;99a");
        for (int i = 0; i < 12; i++) {
            x.picture(0, 0, 9, 0);
            x.burn(0, 0);
            x.seen(0, 0, 0);
        }
        x.faint(99);
        x.sheet(0, 0, -1);
        int[] most = {8, 31, 12, 12, 8, 99, 792, 8, 5};
        for (int what = 0; what <= 8; what++) {
            due("36 count(" + what + ")", x.count(what), most[what]);
        }
    }

    // Promise 36: "BAD."
    private static void countRefuses() {
        TakenShade x = new TakenShade();
        for (int what : new int[] {-1, 9, LEAST, MOST}) {
            due("36 what " + what, x.count(what), BAD);
        }
    }

    // Promise 37: "as longs that wrap": reckoned by numbers that do not, of which the lowest 64 bits are due.
    private static void digestThatWraps() {
        for (Setting setting : Setting.values()) {
            BigInteger h = reckon(setting.make());
            check.holds("37 " + setting + " wraps", h.bitLength() > 64);
            due("37 " + setting, setting.make().digest(), h.longValue());
        }
        TakenShade x = Setting.FULL.make();
        long before = x.digest();
        x.lose(3);
        x.sheet(3, 0, 9);
        x.want(0, x.want(0, 3));
        due("37 sheets and findings aside", x.digest(), before);
    }

    // What each part asks (its year, its size and so on) shows: beside each such number things stand otherwise.
    private static void digestOfEachPart() {
        due("37 each part", manyYears().digest(), reckon(manyYears()).longValue());
        TakenShade x = manyYears();
        int[] wholes = {x.whole(8, 0, 50, NONE, 1), x.whole(9, 0, 49, NONE, 1), x.whole(9, 0, 50, NONE, 1),
            x.whole(9, 0, 51, NONE, 1), x.whole(10, 0, 50, NONE, 1)};
        int[] due = {3, 5, 6, 7, 9};
        for (int i = 0; i < due.length; i++) {
            due("37 loss " + i, wholes[i], due[i]);
        }
        due("37 never behind year 8", x.shots(5, 8, 4, 1, 4, 1), 1);
        due("37 perhaps behind year 9", x.shots(5, 9, 4, 1, 4, 1), 65536);
        due("37 never by a lesser size", x.shots(5, 9, 4, 1, 3, 1), 1);
        due("37 surely behind year 10", x.shots(5, 10, 4, 1, 4, 1), 1);
    }

    // "of YEARS 0, 5, 29 ... swap() 0 to 2": in each of these years another pair and another number of swaps.
    private static void digestOfSwaps() {
        TakenShade x = Check.people("90.;90.");
        int[][] pictures = {{0, 1, 1}, {0, 0, 0}, {5, 1, 1}, {5, 0, 0}, {29, 1, 1}, {29, 0, 0}, {29, 1, 1}, {29, 0, 0}};
        for (int[] picture : pictures) {
            x.picture(picture[0], picture[1], 1, picture[2]);
        }
        x.want(0, 1);
        x.want(1, 0);
        x.burn(5, 1);
        x.burn(29, 0);
        x.burn(29, 3);
        int[][] due = {{0, 1, 1}, {0, 3, 1}, {2, 5, 2}};
        int[] years = {0, 5, 29};
        for (int i = 0; i < years.length; i++) {
            for (int what = 0; what <= 2; what++) {
                due("20 year " + years[i] + ", " + what, x.swap(years[i], what), due[i][what]);
            }
        }
        due("37 swaps", x.digest(), reckon(x).longValue());
    }

    private static TakenShade manyYears() {
        TakenShade x = Check.people("63.;26.;40.");
        int[][] pictures = {{1, 0, 1}, {4, 0, 5}, {5, 0, 4}, {6, 0, 3}, {8, 0, 3}, {9, 0, 3}, {10, 0, 3}, {29, 0, 1},
            {9, 1, 4}, {10, 1, 9}, {10, 1, 4}};
        for (int i = 0; i < pictures.length; i++) {
            x.picture(pictures[i][0], pictures[i][1], pictures[i][2], i % 4);
        }
        return x;
    }

    private static BigInteger reckon(TakenShade x) {
        BigInteger h = BigInteger.valueOf(17);
        for (int what = 0; what <= 7; what++) {
            h = mix(h, x.count(what));
        }
        h = mix(h, x.fault());
        for (int p = 0; p < x.count(0); p++) {
            h = mix(h, x.person(p, 0), x.person(p, 1), x.solid(5, p), x.solid(29, p), x.whole(9, p, 50, NONE, 0),
                    x.whole(9, p, 50, NONE, 1), x.spy(9, p, 3), x.shots(5, 9, 4, p, 4, 0), x.shots(5, 9, 4, p, 4, 1),
                    x.plates(7, 20, p));
        }
        for (int i = 0; i < x.count(2); i++) {
            h = mix(h, x.took(i, 0), x.took(i, 1), x.sizes(i));
        }
        for (int year : new int[] {0, 5, 29}) {
            h = mix(h, x.behind(year, 0), x.behind(year, 1), x.behind(year, 2), x.drawer(year, 0), x.drawer(year, 1),
                    x.drawer(year, 2), x.drawer(year, 3), x.feast(year, 2), x.swap(year, 0), x.swap(year, 1),
                    x.swap(year, 2));
        }
        return mix(h, x.unseen(0), x.unseen(1), x.never(), x.town(99, 55, 2), x.toll(99, 2));
    }

    private static BigInteger mix(BigInteger start, long... parts) {
        BigInteger h = start;
        for (long part : parts) {
            h = h.multiply(BigInteger.valueOf(31)).add(BigInteger.valueOf(part));
        }
        return h;
    }
}
