/** For each promise of the document answers reckoned by hand: ordinary ones, edges and refusals. */
public final class PromiseTests {
    private static final int NONE = TakenShade.NONE;
    private static final int BAD = TakenShade.BAD;
    private static final int NOT = TakenShade.NOT;
    private static final int FULL = TakenShade.FULL;
    private static final int LEAST = Integer.MIN_VALUE;
    private static final int NULL = -11;
    private static final int INDEX = -12;
    private static final int CAST = -13;
    private static final int STORE = -14;
    private static final int SIZE = -15;

    private static final Check check = new Check();

    public static void main(String[] args) {
        newObject();
        typeWipeUndo();
        fault();
        person();
        picture();
        burn();
        back();
        faint();
        want();
        solid();
        burningsGiveBack();
        behind();
        drawer();
        took();
        unseen();
        whole();
        wholeChoices();
        feast();
        spy();
        spyAmongBurnings();
        swap();
        swaps();
        seenForget();
        read();
        never();
        sizes();
        town();
        toll();
        shots();
        plates();
        sheet();
        lose();
        lay();
        get();
        copy();
        write();
        count();
        digest();
        check.end();
    }

    private static void due(String call, long got, long want) {
        check.due(call, got, want);
    }

    private static TakenShade people(String text) {
        return Check.people(text);
    }

    // Promise 1
    private static void newObject() {
        TakenShade x = new TakenShade();
        due("1 count(0)", x.count(0), 0);
        due("1 fault", x.fault(), NONE);
        due("1 count(5)", x.count(5), 10);
        due("1 count(8)", x.count(8), 0);
        for (int s = 0; s < 4; s++) {
            due("1 sheet " + s + " is lost", x.lose(s), NULL);
            due("1 want " + s, x.want(s, NONE), NONE);
        }
    }

    // Promises 2, 3, 4
    private static void typeWipeUndo() {
        TakenShade x = new TakenShade();
        due("2 type(-1)", x.type(-1), BAD);
        due("2 type(256)", x.type(256), BAD);
        due("4 undo of nothing", x.undo(), NOT);
        due("3 wipe of nothing", x.wipe(), 0);
        due("2 type(0)", x.type(0), 1);
        due("2 type(255)", x.type(255), 2);
        due("4 undo", x.undo(), 1);
        due("3 wipe", x.wipe(), 1);
        for (int i = 1; i <= 31; i++) {
            due("2 byte " + i, x.type('x'), i);
        }
        due("2 byte 32", x.type('x'), FULL);
        due("2 BAD before FULL", x.type(256), BAD);
        due("2 nothing changed", x.count(1), 31);
        due("3 wipe of all", x.wipe(), 31);
        due("3 none left", x.count(1), 0);
    }

    // Promise 5
    private static void fault() {
        due("5 empty", people("").fault(), NONE);
        due("5 one", people("00.").fault(), NONE);
        due("5 two", people("99h;10a").fault(), NONE);
        due("5 first not a figure", people(";").fault(), 0);
        due("5 second not a figure", people("9/").fault(), 1);
        due("5 second above figures", people("9:").fault(), 1);
        due("5 twin below a", people("90`").fault(), 2);
        due("5 twin above h", people("90i").fault(), 2);
        due("5 twin a capital", people("90A").fault(), 2);
        due("5 not ended: 1", people("9").fault(), 1);
        due("5 not ended: 2", people("99").fault(), 2);
        due("5 nothing behind ;", people("99.;").fault(), 4);
        due("5 no ;", people("99.9").fault(), 3);
        due("5 the first one", people("99.;xx;yy").fault(), 4);
        due("5 eight", people("99.;99.;99.;99.;99.;99.;99.;99.").fault(), NONE);
        due("5 nobody", people("50.;5").count(0), 0);
    }

    // Promise 6
    private static void person() {
        TakenShade x = people("07b;90.;45c;33h;21a");
        due("6 solid 0", x.person(0, 0), 7);
        due("6 twin 0", x.person(0, 1), 1);
        due("6 solid 1", x.person(1, 0), 90);
        due("6 twin 1", x.person(1, 1), NONE);
        due("6 twin of itself", x.person(2, 1), NONE);
        due("6 twin of one that there is not", x.person(3, 1), NONE);
        due("6 twin 4", x.person(4, 1), 0);
        due("6 person 5", x.person(5, 0), BAD);
        due("6 person -1", x.person(-1, 0), BAD);
        due("6 what 2", x.person(0, 2), BAD);
        due("6 what -1", x.person(0, -1), BAD);
        x.type('x');
        due("6 twin of the next one, that there is not", people("10b").person(0, 1), NONE);
        due("6 with a fault nobody", x.person(0, 0), BAD);
    }

    // Promise 7
    private static void picture() {
        TakenShade x = new TakenShade();
        due("7 year -1", x.picture(-1, 0, 1, 0), BAD);
        due("7 year 30", x.picture(30, 0, 1, 0), BAD);
        due("7 person -1", x.picture(0, -1, 1, 0), BAD);
        due("7 person 8", x.picture(0, 8, 1, 0), BAD);
        due("7 size 0", x.picture(0, 0, 0, 0), BAD);
        due("7 size 10", x.picture(0, 0, 10, 0), BAD);
        due("7 drawer -1", x.picture(0, 0, 1, -1), BAD);
        due("7 drawer 4", x.picture(0, 0, 1, 4), BAD);
        due("7 none told", x.count(2), 0);
        for (int i = 1; i <= 12; i++) {
            due("7 picture " + i, x.picture(29, 7, 9, 3), i);
        }
        due("7 picture 13", x.picture(0, 0, 1, 0), FULL);
        due("7 BAD before FULL", x.picture(30, 0, 1, 0), BAD);
        due("7 twelve", x.count(2), 12);
    }

    // Promise 8
    private static void burn() {
        TakenShade x = new TakenShade();
        due("8 year -1", x.burn(-1, 0), BAD);
        due("8 year 30", x.burn(30, 0), BAD);
        due("8 picture -1", x.burn(0, -1), BAD);
        due("8 picture 12", x.burn(0, 12), BAD);
        for (int i = 1; i <= 12; i++) {
            due("8 burning " + i, x.burn(29, 11), i);
        }
        due("8 burning 13", x.burn(0, 0), FULL);
        due("8 BAD before FULL", x.burn(0, 12), BAD);
        due("8 twelve", x.count(3), 12);
    }

    // Promise 9
    private static void back() {
        TakenShade x = people("90.");
        due("9 what 2", x.back(2), BAD);
        due("9 what -1", x.back(-1), BAD);
        due("9 no picture", x.back(0), NOT);
        due("9 no burning", x.back(1), NOT);
        x.picture(9, 0, 4, 0);
        x.picture(2, 0, 3, 0);
        x.picture(5, 0, 2, 0);
        due("9 all three", x.solid(29, 0), 81);
        due("9 the third", x.back(0), 2);
        due("9 without the third", x.solid(29, 0), 83);
        due("9 the second, though earlier in years", x.back(0), 1);
        due("9 without the second", x.solid(8, 0), 90);
        due("9 the first is left", x.solid(9, 0), 86);
        x.burn(20, 0);
        x.burn(10, 0);
        due("9 burnt", x.solid(10, 0), 90);
        due("9 the second burning", x.back(1), 1);
        due("9 not burnt yet", x.solid(10, 0), 86);
        due("9 burnt by the first", x.solid(20, 0), 90);
    }

    // Promise 10
    private static void faint() {
        TakenShade x = people("99.;98.");
        due("10 was", x.faint(99), 10);
        due("10 used", x.behind(0, 0), 2);
        due("10 was 99", x.faint(0), 99);
        due("10 nobody", x.behind(0, 0), 0);
        due("10 bad -1", x.faint(-1), BAD);
        due("10 bad 100", x.faint(100), BAD);
        due("10 as it was", x.count(5), 0);
    }

    // Promise 11
    private static void want() {
        TakenShade x = new TakenShade();
        due("11 was none", x.want(3, 7), NONE);
        due("11 was 7", x.want(3, 0), 7);
        due("11 was 0", x.want(3, NONE), 0);
        due("11 none again", x.want(3, 1), NONE);
        due("11 drawer -1", x.want(-1, 0), BAD);
        due("11 drawer 4", x.want(4, 0), BAD);
        due("11 person 8", x.want(3, 8), BAD);
        due("11 person -2", x.want(3, -2), BAD);
        due("11 unchanged", x.want(3, 1), 1);
    }

    // Promise 12
    private static void solid() {
        TakenShade x = people("20b;09.;50a");
        x.picture(4, 0, 9, 0);
        x.picture(2, 0, 5, 1);
        x.picture(4, 0, 8, 0);
        x.picture(4, 2, 7, 0);
        x.picture(4, 7, 9, 0);
        due("12 year 1", x.solid(1, 0), 20);
        due("12 year 2", x.solid(2, 0), 15);
        due("12 half cut", x.solid(2, 1), 7);
        due("12 all that is left", x.solid(4, 0), 0);
        due("12 twin: all that is left", x.solid(4, 1), 0);
        due("12 person 2", x.solid(4, 2), 43);
        due("12 year 3", x.solid(3, 0), 15);
        due("12 year 29", x.solid(29, 2), 43);
        due("12 year -1", x.solid(-1, 0), BAD);
        due("12 year 30", x.solid(30, 0), BAD);
        due("12 person 3", x.solid(0, 3), BAD);
        due("12 person -1", x.solid(0, -1), BAD);
    }

    private static void burningsGiveBack() {
        TakenShade x = people("05b;03.");
        x.burn(3, 0);
        x.picture(3, 0, 9, 0);
        x.picture(3, 0, 9, 0);
        due("12 burnt in its own year, though told before", x.solid(3, 0), 5);
        due("12 twin too", x.solid(3, 1), 3);
        x.burn(2, 1);
        due("12 burnt before it was taken: nothing", x.behind(3, 1), 2);
        x.burn(5, 1);
        x.burn(6, 0);
        x.burn(6, 11);
        due("12 it took nothing", x.solid(29, 0), 5);
        due("12 twice burnt", x.solid(29, 1), 3);
    }

    // Promise 13
    private static void behind() {
        TakenShade x = people("12.;09.;10b;50.");
        x.picture(1, 0, 3, 0);
        x.picture(2, 2, 1, 0);
        x.picture(2, 5, 1, 0);
        x.burn(3, 0);
        due("13 unseen 0", x.behind(0, 0), 2);
        due("13 unseen 1", x.behind(1, 0), 3);
        due("13 unseen 2", x.behind(2, 0), 7);
        due("13 unseen 3", x.behind(3, 0), 6);
        due("13 there 0", x.behind(0, 1), 0);
        due("13 there 1", x.behind(1, 1), 1);
        due("13 there 2", x.behind(2, 1), 3);
        due("13 there 3", x.behind(3, 1), 2);
        for (int year = 0; year < 30; year++) {
            due("13 all " + year, x.behind(year, 2), 81);
        }
        due("13 year -1", x.behind(-1, 0), BAD);
        due("13 year 30", x.behind(30, 0), BAD);
        due("13 what -1", x.behind(0, -1), BAD);
        due("13 what 3", x.behind(0, 3), BAD);
    }

    // Promise 14
    private static void drawer() {
        TakenShade x = people("30b;02.");
        x.picture(1, 0, 7, 2);
        x.picture(2, 0, 6, 2);
        x.picture(2, 1, 6, 3);
        x.burn(4, 0);
        due("14 before", x.drawer(0, 2), 0);
        due("14 of both", x.drawer(1, 2), 9);
        due("14 two pictures", x.drawer(3, 2), 15);
        due("14 nothing left to take", x.drawer(3, 3), 0);
        due("14 burnt", x.drawer(4, 2), 6);
        due("14 another", x.drawer(29, 0), 0);
        due("14 drawer -1", x.drawer(0, -1), BAD);
        due("14 drawer 4", x.drawer(0, 4), BAD);
        due("14 year -1", x.drawer(-1, 0), BAD);
        due("14 year 30", x.drawer(30, 0), BAD);
    }

    // Promise 15
    private static void took() {
        TakenShade x = people("10b;20.");
        x.picture(29, 0, 7, 0);
        x.picture(3, 0, 5, 0);
        x.picture(3, 1, 9, 0);
        x.picture(3, 2, 9, 0);
        x.burn(29, 0);
        due("15 what was left", x.took(0, 0), 5);
        due("15 half, though burnt", x.took(0, 1), 3);
        due("15 of person", x.took(1, 0), 5);
        due("15 of twin", x.took(1, 1), 2);
        due("15 no twin", x.took(2, 1), 0);
        due("15 never", x.took(3, 0), 0);
        due("15 never", x.took(3, 1), 0);
        due("15 no such", x.took(4, 0), BAD);
        due("15 no such", x.took(-1, 0), BAD);
        due("15 what 2", x.took(0, 2), BAD);
        due("15 what -1", x.took(0, -1), BAD);
    }

    // Promise 16
    private static void unseen() {
        TakenShade x = people("09.;11.;15.;12.");
        due("16 nobody anew", x.unseen(0), NONE);
        due("16 who", x.unseen(1), NONE);
        x.picture(7, 2, 9, 0);
        due("16 year", x.unseen(0), 7);
        due("16 who", x.unseen(1), 2);
        x.picture(7, 1, 2, 0);
        due("16 the least of one year", x.unseen(1), 1);
        x.picture(6, 3, 2, 0);
        due("16 not less solid than 10", x.unseen(0), 7);
        x.picture(6, 3, 1, 0);
        due("16 an earlier year", x.unseen(0), 6);
        due("16 who", x.unseen(1), 3);
        x.burn(6, 3);
        due("16 given back in the year", x.unseen(0), 7);
        due("16 what 2", x.unseen(2), BAD);
        due("16 what -1", x.unseen(-1), BAD);
        TakenShade first = people("10.");
        first.picture(0, 0, 1, 0);
        due("16 year 0", first.unseen(0), 0);
        due("16 person 0", first.unseen(1), 0);
        TakenShade eighth = people("10.;10.;10.;10.;10.;10.;10.;10.");
        eighth.picture(1, 7, 1, 0);
        due("16 person 7", eighth.unseen(1), 7);
        TakenShade last = people("10.");
        last.picture(29, 0, 1, 0);
        due("16 year 29", last.unseen(0), 29);
    }

    // Promise 17
    private static void whole() {
        TakenShade x = people("40b;30.");
        x.picture(0, 0, 9, 0);
        x.picture(1, 0, 9, 1);
        x.picture(2, 0, 3, 2);
        x.picture(3, 1, 8, 3);
        due("17 solid now", x.solid(3, 0), 19);
        due("17 nothing to do", x.whole(3, 0, 19, NONE, 0), 0);
        due("17 nothing lost", x.whole(3, 0, 19, NONE, 1), 0);
        due("17 one is enough", x.whole(3, 0, 22, NONE, 0), 4);
        due("17 its loss", x.whole(3, 0, 22, NONE, 1), 4);
        due("17 like ones: the spared one", x.whole(3, 0, 23, 1, 0), 2);
        due("17 nothing but the spared loses", x.whole(3, 0, 23, 1, 1), 0);
        due("17 like ones: the least bits", x.whole(3, 0, 23, NONE, 0), 1);
        due("17 two", x.whole(3, 0, 30, 2, 0), 5);
        due("17 two, lost", x.whole(3, 0, 30, 2, 1), 13);
        due("17 all", x.whole(3, 0, 40, NONE, 0), 7);
        due("17 out of reach", x.whole(3, 0, 41, NONE, 0), NONE);
        due("17 out of reach", x.whole(3, 0, 41, NONE, 1), NONE);
        due("17 a twin", x.whole(3, 1, 30, NONE, 0), 15);
        due("17 not yet taken", x.whole(1, 0, 40, NONE, 0), 3);
        due("17 none yet", x.whole(1, 1, 22, NONE, 0), 0);
        due("17 as solid as 0", x.whole(3, 0, 0, 3, 0), 0);
        due("17 drawer 3 is spared", x.whole(3, 1, 17, 3, 0), 8);
        due("17 nothing else lost", x.whole(3, 1, 17, 3, 1), 0);
        due("17 year 30", x.whole(30, 0, 0, NONE, 0), BAD);
        due("17 year -1", x.whole(-1, 0, 0, NONE, 0), BAD);
        due("17 person 2", x.whole(0, 2, 0, NONE, 0), BAD);
        due("17 person -1", x.whole(0, -1, 0, NONE, 0), BAD);
        due("17 solid 100", x.whole(0, 0, 100, NONE, 0), BAD);
        due("17 solid -1", x.whole(0, 0, -1, NONE, 0), BAD);
        due("17 spared 4", x.whole(0, 0, 0, 4, 0), BAD);
        due("17 spared -2", x.whole(0, 0, 0, -2, 0), BAD);
        due("17 what 2", x.whole(0, 0, 0, NONE, 2), BAD);
        due("17 what -1", x.whole(0, 0, 0, NONE, -1), BAD);
    }

    private static void wholeChoices() {
        TakenShade x = people("60b;01.");
        x.picture(0, 0, 9, 0);
        x.picture(0, 0, 9, 0);
        x.picture(0, 0, 9, 0);
        due("17 the one that took less of its twin", x.whole(0, 0, 42, NONE, 0), 2);
        due("17 its loss", x.whole(0, 0, 42, NONE, 1), 9);
        due("17 two with less loss", x.whole(0, 0, 51, NONE, 0), 6);
        x.burn(0, 1);
        due("17 burnt already", x.whole(0, 0, 51, NONE, 0), 4);
        TakenShade gone = people("99.");
        for (int i = 0; i < 12; i++) {
            gone.picture(0, 0, 9, 0);
        }
        due("17 one missing", gone.whole(0, 0, 1, NONE, 0), 1);
        due("17 all missing", gone.whole(0, 0, 99, NONE, 0), 2047);
        due("17 all lost", gone.whole(0, 0, 99, NONE, 1), 99);
    }

    // Promise 18
    private static void feast() {
        TakenShade x = people("29b;10.;09.;99.");
        x.picture(2, 3, 9, 0);
        due("18 size 1", x.feast(0, 1), 19 + 89);
        due("18 size 9", x.feast(0, 9), 2 + 9);
        due("18 behind year 2", x.feast(2, 9), 2 + 8);
        x.faint(90);
        due("18 just as faint", x.feast(2, 1), 0);
        due("18 one of nine", x.feast(1, 9), 1);
        due("18 year 30", x.feast(30, 1), BAD);
        due("18 year -1", x.feast(-1, 1), BAD);
        due("18 size 0", x.feast(0, 0), BAD);
        due("18 size 10", x.feast(0, 10), BAD);
        x.faint(98);
        due("18 one more than faint", x.feast(1, 1), 1);
        due("18 nobody", new TakenShade().feast(0, 1), 0);
    }

    // Promise 19
    private static void spy() {
        TakenShade x = people("99.;09.;10.");
        due("19 unseen already", x.spy(0, 1, 9), 0);
        due("19 one", x.spy(0, 2, 1), 1);
        due("19 ninety", x.spy(0, 0, 1), 90);
        due("19 by nine", x.spy(0, 0, 9), 10);
        x.faint(1);
        due("19 ninety-nine", x.spy(0, 0, 1), 99);
        x.picture(3, 0, 4, 0);
        due("19 behind the others", x.spy(3, 0, 1), 95);
        due("19 the year before", x.spy(2, 0, 1), 99);
        x.faint(0);
        due("19 none is less than 0", x.spy(0, 0, 9), NONE);
        due("19 year 30", x.spy(30, 0, 1), BAD);
        due("19 year -1", x.spy(-1, 0, 1), BAD);
        due("19 person 3", x.spy(0, 3, 1), BAD);
        due("19 person -1", x.spy(0, -1, 1), BAD);
        due("19 size 0", x.spy(0, 0, 0), BAD);
        due("19 size 10", x.spy(0, 0, 10), BAD);
    }

    // The pictures more come behind the year's pictures and so before its burnings, which still give back.
    private static void spyAmongBurnings() {
        TakenShade x = people("20.");
        x.picture(0, 0, 9, 0);
        x.picture(1, 0, 9, 0);
        x.burn(1, 0);
        x.burn(1, 1);
        due("19 what is given back is enough", x.spy(1, 0, 9), NONE);
        x.back(1);
        due("19 nine given back", x.spy(1, 0, 1), 2);
        due("19 all that is left", x.spy(1, 0, 9), 1);
    }

    // Promise 20
    private static void swap() {
        TakenShade x = people("90.;90.;90.");
        x.picture(0, 0, 1, 0);
        x.picture(0, 1, 1, 1);
        x.picture(0, 0, 1, 0);
        x.picture(1, 2, 1, 1);
        due("20 nobody wants", x.swap(5, 0), NONE);
        due("20 it rests", x.swap(5, 2), 0);
        x.want(0, 1);
        due("20 one gains, the other does not", x.swap(5, 0), NONE);
        x.want(1, 0);
        due("20 one", x.swap(5, 0), 0);
        due("20 other", x.swap(5, 1), 1);
        due("20 once", x.swap(5, 2), 1);
        x.want(0, 2);
        due("20 not taken yet", x.swap(0, 0), NONE);
        due("20 not taken yet: other", x.swap(0, 1), NONE);
        due("20 taken", x.swap(1, 1), 3);
        x.burn(2, 0);
        due("20 burnt", x.swap(2, 0), 2);
        x.want(1, 2);
        due("20 it has what it wants", x.swap(1, 0), NONE);
        due("20 year 30", x.swap(30, 0), BAD);
        due("20 year -1", x.swap(-1, 0), BAD);
        due("20 what 3", x.swap(0, 3), BAD);
        due("20 what -1", x.swap(0, -1), BAD);
        due("20 nothing moved", x.drawer(1, 0), 2);
    }

    private static void swaps() {
        TakenShade x = people("90.;90.;90.;90.");
        x.want(0, 1);
        x.want(1, 0);
        x.want(2, 3);
        x.want(3, 2);
        for (int i = 0; i < 3; i++) {
            x.picture(0, 0, 1, 0);
            x.picture(0, 1, 1, 1);
        }
        for (int i = 0; i < 3; i++) {
            x.picture(0, 2, 1, 2);
            x.picture(0, 3, 1, 3);
        }
        due("20 six", x.swap(0, 2), 6);
        due("20 the least one", x.swap(0, 0), 0);
        due("20 the least other", x.swap(0, 1), 1);
        x.want(1, NONE);
        due("20 three", x.swap(0, 2), 3);
        due("20 the least of these", x.swap(0, 0), 6);
    }

    // Promises 21, 22
    private static void seenForget() {
        TakenShade x = new TakenShade();
        due("22 nothing", x.forget(), 0);
        due("21 year -1", x.seen(-1, 0, 0), BAD);
        due("21 year 30", x.seen(30, 0, 0), BAD);
        due("21 person -1", x.seen(0, -1, 0), BAD);
        due("21 person 8", x.seen(0, 8, 0), BAD);
        due("21 solid -1", x.seen(0, 0, -1), BAD);
        due("21 solid 100", x.seen(0, 0, 100), BAD);
        for (int i = 1; i <= 8; i++) {
            due("21 seen " + i, x.seen(29, 7, 99), i);
        }
        due("21 ninth", x.seen(0, 0, 0), FULL);
        due("21 BAD before FULL", x.seen(30, 0, 0), BAD);
        due("22 eight", x.forget(), 8);
        due("22 none", x.count(4), 0);
        due("21 anew", x.seen(0, 0, 0), 1);
    }

    // Promise 23
    private static void read() {
        TakenShade x = new TakenShade();
        due("23 sheet 4", x.read(4), BAD);
        due("23 sheet -1", x.read(-1), BAD);
        due("23 lost", x.read(0), NULL);
        due("23 found", x.count(8), 1);
        x.sheet(0, 0, 2);
        due("23 not whole", x.read(0), 0);
        x.sheet(0, 0, 8);
        due("23 two whole ones", x.read(0), 2);
        due("23 two", x.count(4), 2);
        x.lay(0, 0, 3, 200);
        due("23 the second may not be", x.read(0), 1);
        due("23 three", x.count(4), 3);
        x.sheet(1, 2, 60);
        due("23 till full", x.read(1), 5);
        due("23 full", x.read(1), 0);
        due("23 eight", x.count(4), 8);
        TakenShade y = people("50.");
        y.picture(3, 0, 5, 0);
        y.sheet(2, 1, 6);
        y.lay(2, 1, 0, 3);
        y.lay(2, 1, 2, 45);
        y.lay(2, 1, 4, 8);
        due("23 one, then no such person", y.read(2), 1);
        due("23 as seen", y.sizes(0), 16);
        y.lay(2, 1, 1, 1);
        due("23 of another", y.read(2), 1);
        due("23 who is not there", y.sizes(0), 0);
    }

    // Promise 24
    private static void never() {
        TakenShade x = people("20b;30.");
        x.picture(1, 0, 4, 0);
        x.picture(2, 0, 4, 0);
        x.picture(2, 1, 5, 0);
        x.picture(2, 6, 5, 0);
        due("24 nothing seen", x.never(), 15);
        x.seen(2, 0, 16);
        due("24 one of two", x.never(), 3);
        x.seen(1, 0, 20);
        due("24 the first", x.never(), 1);
        x.seen(29, 1, 23);
        due("24 as it comes out", x.never(), 1);
        x.seen(29, 1, 24);
        due("24 not both", x.never(), 0);
        x.forget();
        x.seen(0, 2, 0);
        due("24 of nobody", x.never(), 0);
        x.forget();
        x.burn(3, 1);
        x.seen(3, 0, 20);
        due("24 burnt what was never taken", x.never(), 1);
        due("24 no picture", new TakenShade().never(), 0);
    }

    // Promise 25
    private static void sizes() {
        TakenShade x = people("08b;20.");
        x.picture(4, 0, 3, 0);
        due("25 nothing seen", x.sizes(0), 511);
        x.seen(4, 1, 19);
        due("25 half cut", x.sizes(0), 2 + 4);
        x.seen(4, 0, 5);
        due("25 its own", x.sizes(0), 4);
        x.seen(3, 0, 8);
        due("25 before", x.sizes(0), 4);
        x.seen(3, 0, 7);
        due("25 none", x.sizes(0), 0);
        x.forget();
        x.seen(9, 0, 0);
        due("25 all that is left", x.sizes(0), 128 + 256);
        due("25 no such", x.sizes(1), BAD);
        due("25 no such", x.sizes(-1), BAD);
    }

    // Promise 26
    private static void town() {
        TakenShade x = new TakenShade();
        due("26 at once", x.town(1, 10, 99), 0);
        due("26 no tourists", x.town(1, 0, 0), NONE);
        due("26 one left", x.town(2, 10, 0), 1);
        due("26 cut", x.town(1, 9, 0), NONE);
        due("26 in the last year", x.town(100, 10, 0), 99);
        due("26 behind the last year", x.town(101, 10, 0), NONE);
        due("26 not above the first", x.town(10, 95, 99), NONE);
        due("26 slowly", x.town(10, 30, 2), 7);
        due("26 solid 0", x.town(0, 0, 0), BAD);
        due("26 solid 1000", x.town(1000, 0, 0), BAD);
        due("26 tourists -1", x.town(1, -1, 0), BAD);
        due("26 tourists 1000", x.town(1, 1000, 0), BAD);
        due("26 grows -1", x.town(1, 0, -1), BAD);
        due("26 grows 100", x.town(1, 0, 100), BAD);
        due("26 the most", x.town(999, 999, 99), NONE);
    }

    // Promise 27
    private static void toll() {
        TakenShade x = new TakenShade();
        due("27 nothing grows", x.toll(50, 0), 9);
        due("27 as it grows", x.toll(50, 3), 39);
        due("27 within the years of a town", x.toll(999, 0), 99);
        due("27 less than it has", x.toll(2, 99), 19);
        due("27 all", x.toll(100, 99), 999);
        due("27 solid 0", x.toll(0, 0), BAD);
        due("27 solid 1000", x.toll(1000, 0), BAD);
        due("27 grows -1", x.toll(1, -1), BAD);
        due("27 grows 100", x.toll(1, 100), BAD);
    }

    // Promise 28
    private static void shots() {
        TakenShade x = people("20b;09.");
        x.picture(3, 0, 1, 0);
        due("28 never", x.shots(0, 3, 10, 0, 9, 0), 0);
        due("28 by one", x.shots(0, 3, 10, 0, 9, 1), 1);
        due("28 surely", x.shots(16, 3, 2, 0, 9, 0), 1);
        due("28 surely, by one", x.shots(16, 3, 2, 0, 9, 1), 1);
        due("28 a half of two", x.shots(8, 2, 2, 0, 6, 0), 1);
        due("28 by four", x.shots(8, 2, 2, 0, 6, 1), 4);
        due("28 two of ten", x.shots(1, 29, 10, 0, 9, 1), 1L << 40);
        // Two at least of ten: 16 to the 10th, less 15 to the 10th, less 10 times 15 to the 9th.
        due("28 above", x.shots(1, 29, 10, 0, 9, 0), 1099511627776L - 576650390625L - 384433593750L);
        due("28 of one", x.shots(4, 3, 1, 1, 9, 0), 1);
        due("28 one of one", x.shots(4, 2, 1, 0, 9, 0), 0);
        x.faint(12);
        due("28 one of one, above", x.shots(4, 2, 1, 0, 9, 0), 1);
        due("28 one of one, below", x.shots(4, 2, 1, 0, 9, 1), 4);
        x.faint(1);
        due("28 nothing left", x.shots(16, 0, 10, 0, 9, 0), 1);
        x.faint(10);
        due("28 unseen as it is", x.shots(3, 0, 4, 1, 1, 0), 1);
        long bad = Long.MIN_VALUE + 2;
        due("28 c -1", x.shots(-1, 0, 1, 0, 1, 0), bad);
        due("28 c 17", x.shots(17, 0, 1, 0, 1, 0), bad);
        due("28 year -1", x.shots(0, -1, 1, 0, 1, 0), bad);
        due("28 year 30", x.shots(0, 30, 1, 0, 1, 0), bad);
        due("28 n 0", x.shots(0, 0, 0, 0, 1, 0), bad);
        due("28 n 11", x.shots(0, 0, 11, 0, 1, 0), bad);
        due("28 person -1", x.shots(0, 0, 1, -1, 1, 0), bad);
        due("28 person 2", x.shots(0, 0, 1, 2, 1, 0), bad);
        due("28 size 0", x.shots(0, 0, 1, 0, 0, 0), bad);
        due("28 size 10", x.shots(0, 0, 1, 0, 10, 0), bad);
        due("28 what 2", x.shots(0, 0, 1, 0, 1, 2), bad);
        due("28 what -1", x.shots(0, 0, 1, 0, 1, -1), bad);
    }

    // Promise 29
    private static void plates() {
        // Seed 0 becomes 12345 (upper bits 0: person 0), then 3554416254 (54236, modulo 9 is 2: size 3).
        TakenShade x = people("50b;40.");
        due("29 person 0 of two", x.plates(0, 0, 0), 47);
        due("29 its twin", x.plates(0, 0, 1), 39);
        // Then 2802067423 (upper bits 42756: person 0) and 3596950572 (54885, modulo 9 is 3: size 4).
        due("29 a year more", x.plates(0, 1, 0), 43);
        due("29 its twin", x.plates(0, 1, 1), 37);
        x.picture(1, 0, 9, 0);
        due("29 with a picture", x.plates(0, 1, 0), 34);
        x.burn(1, 0);
        due("29 with a burning", x.plates(0, 1, 0), 43);
        due("29 one person", people("50.").plates(0, 3, 0), 50 - (2 + 1) - (3 + 1) - lotsOfOne());
        TakenShade thin = people("05.");
        thin.picture(0, 0, 3, 0);
        thin.burn(0, 0);
        due("29 behind the pictures, before the burnings", thin.plates(0, 0, 0), 3);
        due("29 year 30", x.plates(0, 30, 0), BAD);
        due("29 year -1", x.plates(0, -1, 0), BAD);
        due("29 person 2", x.plates(0, 0, 2), BAD);
        due("29 person -1", x.plates(0, 0, -1), BAD);
    }

    /** What is taken in the years 2 and 3 by seed 0: the sizes of the sixth and the eighth lot. */
    private static int lotsOfOne() {
        long seed = 0;
        int sum = 0;
        for (int lot = 1; lot <= 8; lot++) {
            seed = (1103515245L * seed + 12345) % (1L << 32);
            sum += lot == 6 || lot == 8 ? (int) (seed / 65536 % 9) + 1 : 0;
        }
        return sum;
    }

    // Promise 30
    private static void sheet() {
        TakenShade x = new TakenShade();
        due("30 sheet -1", x.sheet(-1, 0, 0), BAD);
        due("30 sheet 4", x.sheet(4, 0, 0), BAD);
        due("30 form -1", x.sheet(0, -1, 0), BAD);
        due("30 form 3", x.sheet(0, 3, 0), BAD);
        due("30 61 items", x.sheet(0, 0, 61), BAD);
        due("30 BAD before SIZE", x.sheet(0, 3, -1), BAD);
        due("30 nothing found", x.count(8), 0);
        due("30 size", x.sheet(0, 0, -1), SIZE);
        due("30 found", x.count(8), 5);
        due("30 still lost", x.lose(0), NULL);
        due("30 empty", x.sheet(0, 0, 0), 0);
        due("30 sixty", x.sheet(3, 2, 60), 60);
        due("30 zero at first", x.get(3, 2, 59), 0);
        x.lay(3, 2, 0, 7);
        due("30 size again", x.sheet(3, 2, LEAST), SIZE);
        due("30 as it was", x.get(3, 2, 0), 7);
        due("30 anew", x.sheet(3, 2, 1), 1);
        due("30 zero again", x.get(3, 2, 0), 0);
    }

    // Promise 31
    private static void lose() {
        TakenShade x = new TakenShade();
        due("31 sheet 4", x.lose(4), BAD);
        due("31 sheet -1", x.lose(-1), BAD);
        due("31 lost at first", x.lose(2), NULL);
        x.sheet(2, 1, 5);
        due("31 five", x.lose(2), 5);
        due("31 lost again", x.lose(2), NULL);
        due("31 found", x.count(8), 1);
    }

    // Promise 32
    private static void lay() {
        TakenShade x = new TakenShade();
        x.sheet(0, 0, 3);
        x.sheet(1, 1, 3);
        x.sheet(2, 2, 3);
        due("32 byte", x.lay(0, 0, 0, 0x180), 1);
        due("32 lowest 8 bits", x.get(0, 0, 0), -128);
        due("32 short", x.lay(1, 1, 2, 0x12345), 1);
        due("32 lowest 16 bits", x.get(1, 1, 2), 0x2345);
        due("32 short below 0", x.lay(1, 1, 1, 0x8000), 1);
        due("32 its sign", x.get(1, 1, 1), -32768);
        due("32 int", x.lay(2, 2, 1, LEAST + 1), 1);
        due("32 all bits", x.get(2, 2, 1), LEAST + 1);
        due("32 sheet 4", x.lay(4, 0, 0, 0), BAD);
        due("32 sheet -1", x.lay(-1, 0, 0, 0), BAD);
        due("32 form 3", x.lay(3, 3, 0, 0), BAD);
        due("32 form -1", x.lay(3, -1, 0, 0), BAD);
        due("32 lost", x.lay(3, 0, 0, 0), NULL);
        due("32 cast", x.lay(0, 1, 9, 5), CAST);
        due("32 found cast", x.count(8), 3);
        due("32 index 3", x.lay(0, 0, 3, 5), INDEX);
        due("32 index -1", x.lay(0, 0, -1, 5), INDEX);
        due("32 found index", x.count(8), 2);
        due("32 unchanged", x.get(0, 0, 0), -128);
    }

    // Promise 33
    private static void get() {
        TakenShade x = new TakenShade();
        due("33 lost", x.get(0, 0, 0), LEAST);
        due("33 found null", x.count(8), 1);
        x.sheet(0, 1, 2);
        x.lay(0, 1, 1, 300);
        due("33 item", x.get(0, 1, 1), 300);
        due("33 still null", x.count(8), 1);
        due("33 cast", x.get(0, 2, 1), LEAST);
        due("33 found cast", x.count(8), 3);
        due("33 index", x.get(0, 1, 2), LEAST);
        due("33 found index", x.count(8), 2);
        due("33 cast before index", x.get(0, 0, -1), LEAST);
        due("33 found cast", x.count(8), 3);
        due("33 sheet 4", x.get(4, 0, 0), LEAST);
        due("33 form 3", x.get(1, 3, 0), LEAST);
        due("33 BAD finds nothing", x.count(8), 3);
    }

    // Promise 34
    private static void copy() {
        TakenShade x = new TakenShade();
        x.sheet(0, 0, 5);
        for (int i = 0; i < 5; i++) {
            x.lay(0, 0, i, i + 1);
        }
        due("34 up in itself", x.copy(0, 0, 0, 1, 4), 1);
        due("34 as they were", x.get(0, 0, 4), 4);
        due("34 as they were", x.get(0, 0, 1), 1);
        due("34 down in itself", x.copy(0, 2, 0, 0, 3), 1);
        due("34 as they were", x.get(0, 0, 0), 2);
        due("34 as they were", x.get(0, 0, 2), 4);
        x.sheet(1, 0, 2);
        due("34 to another", x.copy(0, 1, 1, 0, 2), 1);
        due("34 first", x.get(1, 0, 0), 3);
        due("34 second", x.get(1, 0, 1), 4);
        due("34 none, at the ends", x.copy(0, 5, 1, 2, 0), 1);
        due("34 behind the end", x.copy(0, 6, 1, 0, 0), INDEX);
        due("34 behind the other end", x.copy(0, 0, 1, 3, 0), INDEX);
        due("34 n below 0", x.copy(0, 0, 1, 0, -1), INDEX);
        due("34 i below 0", x.copy(0, -1, 1, 0, 1), INDEX);
        due("34 j below 0", x.copy(0, 0, 1, -1, 1), INDEX);
        due("34 not so many", x.copy(0, 0, 1, 0, 3), INDEX);
        due("34 wraps", x.copy(0, 1, 1, 1, Integer.MAX_VALUE), INDEX);
        due("34 wraps", x.copy(0, Integer.MAX_VALUE, 1, 1, Integer.MAX_VALUE), INDEX);
        due("34 found index", x.count(8), 2);
        due("34 unchanged", x.get(1, 0, 0), 3);
        x.sheet(2, 2, 5);
        due("34 store", x.copy(0, 0, 2, 0, 1), STORE);
        due("34 store before index", x.copy(0, -1, 2, 0, 1), STORE);
        due("34 found store", x.count(8), 4);
        due("34 null s", x.copy(3, 0, 2, 0, 1), NULL);
        due("34 null t", x.copy(2, 0, 3, 0, 1), NULL);
        due("34 s 4", x.copy(4, 0, 0, 0, 1), BAD);
        due("34 s -1", x.copy(-1, 0, 0, 0, 1), BAD);
        due("34 t 4", x.copy(3, 0, 4, 0, 1), BAD);
        due("34 t -1", x.copy(3, 0, -1, 0, 1), BAD);
    }

    // Promise 35
    private static void write() {
        TakenShade x = people("50b;60.;70.");
        x.picture(2, 0, 9, 0);
        x.sheet(0, 0, 5);
        x.lay(0, 0, 3, 77);
        due("35 three", x.write(2, 0), 3);
        due("35 first", x.get(0, 0, 0), 41);
        due("35 second", x.get(0, 0, 1), 56);
        due("35 third", x.get(0, 0, 2), 70);
        due("35 the next is as it was", x.get(0, 0, 3), 77);
        x.sheet(1, 1, 2);
        due("35 as many as items", x.write(1, 1), 2);
        due("35 the year before", x.get(1, 1, 0), 50);
        x.sheet(1, 2, 0);
        due("35 no items", x.write(1, 1), 0);
        due("35 lost", x.write(0, 2), NULL);
        due("35 year 30", x.write(30, 2), BAD);
        due("35 year -1", x.write(-1, 2), BAD);
        due("35 sheet 4", x.write(0, 4), BAD);
        due("35 sheet -1", x.write(0, -1), BAD);
        x.type('x');
        due("35 nobody", x.write(0, 0), 0);
    }

    // Promise 36
    private static void count() {
        TakenShade x = people("50b;60c;70c;01d;02e;03.;04b");
        x.picture(0, 0, 1, 0);
        x.picture(0, 0, 1, 0);
        x.burn(0, 0);
        x.seen(0, 0, 0);
        x.seen(0, 0, 0);
        x.seen(0, 0, 0);
        x.faint(44);
        due("36 persons", x.count(0), 7);
        due("36 bytes", x.count(1), 27);
        due("36 pictures", x.count(2), 2);
        due("36 burnings", x.count(3), 1);
        due("36 seen", x.count(4), 3);
        due("36 faint", x.count(5), 44);
        due("36 all at first", x.count(6), 190);
        due("36 twins: a, b and g are one's", x.count(7), 3);
        due("36 finding", x.count(8), 0);
        due("36 what 9", x.count(9), BAD);
        due("36 what -1", x.count(-1), BAD);
    }

    // Promise 37
    private static void digest() {
        long h = 17;
        // count() 0 to 7, fault(), then years 0, 5, 29, each: behind 0 to 2, four drawers, feast, swap 0 to 2;
        // then unseen 0 and 1, never, town, toll.
        int[] counts = {0, 0, 0, 0, 0, 10, 0, 0, NONE};
        int[] year = {0, 0, 0, 0, 0, 0, 0, 0, NONE, NONE, 0};
        int[] rest = {NONE, NONE, 0, 32, 29};
        h = mix(mix(mix(mix(mix(h, counts), year), year), year), rest);
        due("37 of a new object", new TakenShade().digest(), h);
        TakenShade x = people("50b;60.");
        x.picture(1, 0, 9, 2);
        long before = x.digest();
        due("37 the same again", x.digest(), before);
        x.lose(0);
        due("37 findings aside", x.digest(), before);
        digestOfAll();
        x.seen(0, 0, 3);
        check.holds("37 what is seen changes it", x.digest() != before);
    }

    /** Each part by its own call, in the order that the document tells. */
    private static void digestOfAll() {
        TakenShade x = people("55b;25a;12.");
        x.picture(0, 0, 9, 0);
        x.picture(1, 1, 7, 1);
        x.picture(7, 0, 8, 1);
        x.picture(8, 2, 5, 2);
        x.burn(5, 1);
        x.want(0, 1);
        x.want(1, 0);
        x.seen(3, 0, 46);
        long h = 17;
        for (int what = 0; what <= 7; what++) {
            h = 31 * h + x.count(what);
        }
        h = 31 * h + x.fault();
        for (int p = 0; p < 3; p++) {
            long[] parts = {x.person(p, 0), x.person(p, 1), x.solid(5, p), x.solid(29, p), x.whole(9, p, 50, NONE, 0),
                x.whole(9, p, 50, NONE, 1), x.spy(9, p, 3), x.shots(5, 9, 4, p, 4, 0), x.shots(5, 9, 4, p, 4, 1),
                x.plates(7, 20, p)};
            for (long part : parts) {
                h = 31 * h + part;
            }
        }
        for (int i = 0; i < 4; i++) {
            h = mix(h, new int[] {x.took(i, 0), x.took(i, 1), x.sizes(i)});
        }
        for (int year : new int[] {0, 5, 29}) {
            h = mix(h, new int[] {x.behind(year, 0), x.behind(year, 1), x.behind(year, 2), x.drawer(year, 0),
                x.drawer(year, 1), x.drawer(year, 2), x.drawer(year, 3), x.feast(year, 2), x.swap(year, 0),
                x.swap(year, 1), x.swap(year, 2)});
        }
        h = mix(h, new int[] {x.unseen(0), x.unseen(1), x.never(), x.town(99, 55, 2), x.toll(99, 2)});
        due("37 of all", x.digest(), h);
        due("37 somebody is unseen", x.unseen(0), 8);
        due("37 somebody can be whole", x.whole(9, 0, 50, NONE, 1), 13 + 12);
        due("37 a picture may be never taken", x.never(), 2);
    }

    private static long mix(long start, int[] values) {
        long h = start;
        for (int value : values) {
            h = 31 * h + value;
        }
        return h;
    }
}
