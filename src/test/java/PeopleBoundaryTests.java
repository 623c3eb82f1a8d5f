/** The boundary cases of the text: part 1 of the document, the FAULT, promises 1 to 6. A test for each sentence. */
public final class PeopleBoundaryTests {
    private static final int NONE = TakenShade.NONE;
    private static final int BAD = TakenShade.BAD;
    private static final int NOT = TakenShade.NOT;
    private static final int FULL = TakenShade.FULL;
    private static final int NULL = -11;
    private static final String EIGHT = "99b;98c;97d;96e;95f;94g;93h;92a";

    private static final Check check = new Check();

    public static void main(String[] args) {
        newObjectHasNobody();
        emptyTextIsWell();
        upTo31Bytes();
        bytesFrom0To255();
        wipeEmptyAndFull();
        wipeLeavesTheRest();
        undoToNothing();
        everyByteInEveryPart();
        notEnded();
        firstOfTwoFaults();
        noNinth();
        eightAtMost();
        solidFrom00To99();
        twinsFromAToH();
        withAFaultNobody();
        faultGoesAway();
        calls512();
        check.end();
    }

    private static void due(String call, long got, long want) {
        check.due(call, got, want);
    }

    private static TakenShade people(String text) {
        return Check.people(text);
    }

    // Promise 1: "Nobody; all SHEETS are LOST." With what the terms tell of the first state.
    private static void newObjectHasNobody() {
        TakenShade x = new TakenShade();
        int[] counts = {0, 0, 0, 0, 0, 10, 0, 0, 0};
        for (int what = 0; what < counts.length; what++) {
            due("1 count(" + what + ")", x.count(what), counts[what]);
        }
        due("1 nobody", x.person(0, 0), BAD);
        due("1 nobody's year", x.solid(0, 0), BAD);
        due("1 no picture", x.took(0, 0), BAD);
        due("1 no picture to undo", x.back(0), NOT);
        due("1 no burning to undo", x.back(1), NOT);
        due("1 nothing to forget", x.forget(), 0);
        for (int year = 0; year < 30; year += 29) {
            due("1 nobody is unseen", x.behind(year, 0), 0);
            due("1 no pictures", x.behind(year, 1), 0);
            due("1 nothing in all", x.behind(year, 2), 0);
            due("1 an empty drawer", x.drawer(year, 3), 0);
            due("1 no feast", x.feast(year, 9), 0);
            due("1 it rests", x.swap(year, 2), 0);
        }
        for (int s = 0; s < 4; s++) {
            due("1 sheet " + s + " is lost", x.lose(s), NULL);
            due("1 want " + s, x.want(s, 0), NONE);
        }
    }

    // "(an empty text is well"
    private static void emptyTextIsWell() {
        TakenShade x = new TakenShade();
        due("5 empty at first", x.fault(), NONE);
        x.type('x');
        x.undo();
        due("5 empty by undo", x.fault(), NONE);
        x.type('x');
        x.wipe();
        due("5 empty by wipe", x.fault(), NONE);
        due("5 nobody in it", x.count(0), 0);
    }

    // "PEOPLE are a text of up to 31 bytes"; promise 2: "FULL".
    private static void upTo31Bytes() {
        TakenShade x = new TakenShade();
        for (int i = 0; i < 31; i++) {
            due("2 byte " + (i + 1), x.type(EIGHT.charAt(i)), i + 1);
        }
        due("2 byte 32", x.type('x'), FULL);
        due("2 byte 32 is nowhere", x.fault(), NONE);
        due("2 bytes", x.count(1), 31);
        due("2 the last one is as it was", x.person(7, 1), 0);
        due("4 one less", x.undo(), 30);
        due("2 room again", x.type('.'), 31);
        due("2 the last one anew", x.person(7, 1), NONE);
        due("2 full again", x.type('.'), FULL);
    }

    // Promise 2: "A byte (0 to 255)".
    private static void bytesFrom0To255() {
        TakenShade x = new TakenShade();
        int[] bad = {-1, 256, '0' + 256, '0' - 256, Integer.MIN_VALUE, Integer.MAX_VALUE};
        for (int b : bad) {
            due("2 type(" + b + ")", x.type(b), BAD);
        }
        due("2 none came", x.count(1), 0);
        due("2 type(0)", x.type(0), 1);
        due("2 type(255)", x.type(255), 2);
    }

    // Promise 3: "how many bytes they had", of none and of all.
    private static void wipeEmptyAndFull() {
        TakenShade x = new TakenShade();
        due("3 of none", x.wipe(), 0);
        Check.typeAll(x, EIGHT);
        due("3 of 31", x.wipe(), 31);
        due("3 of none again", x.wipe(), 0);
        due("3 nobody", x.count(0), 0);
        due("3 nothing to undo", x.undo(), NOT);
        due("3 the next is the first", x.type('5'), 1);
    }

    // Promise 3 empties PEOPLE alone.
    private static void wipeLeavesTheRest() {
        TakenShade x = people("50b;40.");
        x.picture(0, 0, 9, 2);
        x.burn(3, 0);
        x.seen(0, 0, 41);
        x.faint(33);
        x.want(2, 5);
        x.sheet(1, 2, 4);
        x.wipe();
        due("3 pictures", x.count(2), 1);
        due("3 burnings", x.count(3), 1);
        due("3 seen", x.count(4), 1);
        due("3 faint", x.count(5), 33);
        due("3 want", x.want(2, 5), 5);
        Check.typeAll(x, "60b;40.");
        due("3 the picture takes from those that come", x.solid(0, 0), 51);
        due("3 the burning gives back", x.solid(3, 0), 60);
        due("3 the sheet", x.lose(1), 4);
    }

    // Promise 4: "how many are left. NOT: there is none."
    private static void undoToNothing() {
        TakenShade x = people(EIGHT);
        for (int left = 30; left >= 0; left--) {
            due("4 left", x.undo(), left);
        }
        due("4 there is none", x.undo(), NOT);
        due("4 there is still none", x.undo(), NOT);
        due("4 no bytes", x.count(1), 0);
        due("4 the next is the first", x.type('5'), 1);
    }

    // "two figures", ". or a letter a to h", "with ; between them", the place of "the first byte with which it cannot
    // go on": every byte in each of the four parts of the first, the second and the last person.
    private static void everyByteInEveryPart() {
        for (int person : new int[] {0, 1, 7}) {
            for (int part = 0; part < 4 && person * 4 + part < 31; part++) {
                for (int b = 0; b <= 255; b++) {
                    int place = person * 4 + part;
                    TakenShade x = people(EIGHT.substring(0, place));
                    x.type(b);
                    int end = part == 2 ? NONE : place + 1;
                    due("5 byte " + b + " at " + place, x.fault(), mayStand(b, part) ? end : place);
                }
            }
        }
    }

    private static boolean mayStand(int b, int part) {
        String[] signs = {"0123456789", "0123456789", ".abcdefgh", ";"};
        return signs[part].indexOf((char) b) >= 0;
    }

    // "of one that is not ended, its end": every beginning of eight persons.
    private static void notEnded() {
        int[] faults = {NONE, 1, 2, NONE, 4, 5, 6, NONE, 8, 9, 10, NONE, 12, 13, 14, NONE, 16, 17, 18, NONE, 20, 21, 22,
            NONE, 24, 25, 26, NONE, 28, 29, 30, NONE};
        for (int many = 0; many <= 31; many++) {
            TakenShade x = people(EIGHT.substring(0, many));
            due("5 of " + many + " bytes", x.fault(), faults[many]);
            due("5 persons of " + many + " bytes", x.count(0), faults[many] == NONE ? (many + 1) / 4 : 0);
        }
    }

    // "the first byte": what stands behind it does not matter.
    private static void firstOfTwoFaults() {
        due("5 two wrong ones", people("9x;xx").fault(), 1);
        due("5 wrong, then not ended", people("99.;9:.;9").fault(), 5);
        due("5 wrong, then well", people("x99.;99.").fault(), 0);
        due("5 well, then wrong at the end", people(EIGHT.substring(0, 30) + "i").fault(), 30);
    }

    // "here also of the first byte of a ninth": 31 bytes end with the eighth, so that byte never comes.
    private static void noNinth() {
        TakenShade x = people(EIGHT);
        due("5 no ; for a ninth", x.type(';'), FULL);
        due("5 no ninth", x.type('9'), FULL);
        due("5 no fault", x.fault(), NONE);
        due("5 eight", x.count(0), 8);
    }

    // "8 at most (0 on)"; promise 6: "BAD".
    private static void eightAtMost() {
        for (int many = 0; many <= 8; many++) {
            TakenShade x = people(EIGHT.substring(0, Math.max(0, many * 4 - 1)));
            due("6 persons", x.count(0), many);
            for (int person = 0; person < many; person++) {
                due("6 person " + person + " of " + many, x.person(person, 0), 99 - person);
            }
            for (int person : new int[] {many, 8, -1, Integer.MIN_VALUE, Integer.MAX_VALUE}) {
                due("6 person " + person + " of " + many, x.person(person, 0), BAD);
                due("6 twin " + person + " of " + many, x.person(person, 1), BAD);
            }
            for (int what : new int[] {-1, 2, Integer.MIN_VALUE, Integer.MAX_VALUE}) {
                due("6 what " + what + " of " + many, x.person(0, what), BAD);
            }
        }
    }

    // "how SOLID one is at first (00 to 99)"
    private static void solidFrom00To99() {
        for (int solid = 0; solid <= 99; solid++) {
            TakenShade x = people((solid < 10 ? "0" : "") + solid + ".");
            due("6 " + solid, x.person(0, 0), solid);
            due("36 all " + solid, x.count(6), solid);
        }
        due("36 all of eight", people("99.;99.;99.;99.;99.;99.;99.;99.").count(6), 792);
        due("36 all of eight at 0", people("00.;00.;00.;00.;00.;00.;00.;00.").count(6), 0);
    }

    // "a letter a to h, whose TWIN it is (that number; perhaps itself, or one that there is not: then it is nobody's)"
    private static void twinsFromAToH() {
        for (int many = 1; many <= 8; many++) {
            for (int person = 0; person < many; person++) {
                for (int twin = 0; twin < 8; twin++) {
                    TakenShade x = new TakenShade();
                    for (int p = 0; p < many; p++) {
                        Check.typeAll(x, (p > 0 ? ";" : "") + "50" + (p == person ? (char) ('a' + twin) : '.'));
                    }
                    String call = "6 person " + person + " of " + many + ", letter " + (char) ('a' + twin);
                    boolean isOnes = twin < many && twin != person;
                    due(call, x.person(person, 1), isOnes ? twin : NONE);
                    due("36 twins, " + call, x.count(7), isOnes ? 1 : 0);
                }
            }
        }
        due("36 no twin among eight", people("50.;50.;50.;50.;50.;50.;50.;50.").count(7), 0);
        due("36 eight twins", people(EIGHT).count(7), 8);
        due("36 all of one", people("50.;50a;50a;50a;50a;50a;50a;50a").count(7), 7);
    }

    // "With a FAULT there is nobody."
    private static void withAFaultNobody() {
        TakenShade x = people("50b;40a;05.");
        x.picture(0, 0, 9, 1);
        x.sheet(0, 0, 3);
        due("15 taken before the fault", x.took(0, 0), 9);
        due("15 taken of the twin before the fault", x.took(0, 1), 4);
        x.type('x');
        due("5 fault", x.fault(), 11);
        int[] none = {0, 12, 1, 0, 0, 10, 0, 0};
        for (int what = 0; what < none.length; what++) {
            due("36 count(" + what + ") with a fault", x.count(what), none[what]);
        }
        due("6", x.person(0, 0), BAD);
        due("12", x.solid(0, 0), BAD);
        due("13 unseen", x.behind(0, 0), 0);
        due("13 pictures", x.behind(0, 1), 0);
        due("13 all", x.behind(0, 2), 0);
        due("14", x.drawer(0, 1), 0);
        due("15 never taken", x.took(0, 0), 0);
        due("15 never taken of a twin", x.took(0, 1), 0);
        due("16", x.unseen(0), NONE);
        due("17", x.whole(0, 0, 0, NONE, 0), BAD);
        due("18", x.feast(0, 1), 0);
        due("19", x.spy(0, 0, 1), BAD);
        due("20", x.swap(0, 0), NONE);
        due("24 nothing seen", x.never(), 1);
        x.seen(0, 0, 41);
        due("24 somebody seen", x.never(), 0);
        due("28", x.shots(0, 0, 1, 0, 1, 0), Long.MIN_VALUE + 2);
        due("29", x.plates(0, 0, 0), BAD);
        due("35", x.write(0, 0), 0);
    }

    private static void faultGoesAway() {
        TakenShade x = people("50b;40a;05.");
        x.picture(0, 0, 9, 1);
        x.type('x');
        x.undo();
        due("5 none again", x.fault(), NONE);
        due("12 all is as it was", x.solid(0, 0), 41);
        due("14 the drawer too", x.drawer(0, 1), 13);
        due("36 three again", x.count(0), 3);
    }

    // "An object is used for at most 512 calls": the last of them answers as the first.
    private static void calls512() {
        TakenShade x = people(EIGHT);
        x.picture(0, 0, 9, 0);
        for (int call = 33; call < 512; call++) {
            due("call " + call, x.solid(call % 30, 0), 90);
        }
        due("call 512", x.solid(29, 1), 94);
    }
}
