/** The boundary cases of pictures, burnings and years: promises 7 to 16. A test for each sentence. */
public final class PictureBoundaryTests {
    private static final int NONE = TakenShade.NONE;
    private static final int BAD = TakenShade.BAD;
    private static final int NOT = TakenShade.NOT;
    private static final int FULL = TakenShade.FULL;
    private static final int LEAST = Integer.MIN_VALUE;
    private static final int MOST = Integer.MAX_VALUE;

    private static final Check check = new Check();

    public static void main(String[] args) {
        twelvePictures();
        twelveBurnings();
        backToNothing();
        backTakesTheLastTold();
        backFromAmongTheYears();
        burningOfAnUndonePicture();
        firstAndLastYear();
        personsThatThereAreNot();
        personsThatCome();
        allThatIsLeft();
        halfOfSizeCut();
        allThatIsLeftOfTheTwin();
        twinOfItself();
        asTold();
        picturesBeforeBurnings();
        burningOfWhatWasNotTaken();
        burntTwice();
        picturesBehindAllBurnings();
        givesBackWhatItTook();
        givesBackToEveryTwin();
        lessSolidThanFaint();
        faintFrom0To99();
        wantsFromNoneTo7();
        unseenAsBits();
        picturesAsBits();
        drawerFullAndEmpty();
        allTogether();
        tookNever();
        firstUnseenInEveryYear();
        firstUnseenIsTheLeast();
        unseenAtFirstIsNone();
        check.end();
    }

    private static void due(String call, long got, long want) {
        check.due(call, got, want);
    }

    private static TakenShade people(String text) {
        return Check.people(text);
    }

    // "PICTURES, 12 at most (0 on)"; promise 7: "how many. BAD; FULL."
    private static void twelvePictures() {
        TakenShade x = people("99.");
        for (int many = 1; many <= 12; many++) {
            due("7 picture " + many, x.picture(0, 0, 1, 0), many);
        }
        due("7 a thirteenth", x.picture(0, 0, 1, 0), FULL);
        due("7 took nothing", x.solid(0, 0), 87);
        due("7 twelve", x.count(2), 12);
        due("15 the last one", x.took(11, 0), 1);
        due("15 no thirteenth", x.took(12, 0), BAD);
        due("9 one less", x.back(0), 11);
        due("15 it is gone", x.took(11, 0), BAD);
        due("7 room again", x.picture(0, 0, 9, 0), 12);
        due("15 anew", x.took(11, 0), 9);
    }

    // "BURNINGS, 12 at most (0 on): in a YEAR a PICTURE (0 to 11)."; promise 8: "how many. BAD; FULL."
    private static void twelveBurnings() {
        TakenShade x = people("99.");
        for (int i = 0; i < 12; i++) {
            x.picture(0, 0, 1, 0);
        }
        for (int many = 1; many <= 11; many++) {
            due("8 burning " + many, x.burn(5, 0), many);
        }
        due("8 burning 12, of the last picture", x.burn(5, 11), 12);
        due("8 a thirteenth", x.burn(5, 1), FULL);
        due("8 twelve", x.count(3), 12);
        due("13 two are burnt", x.behind(5, 1), 4095 - 2048 - 1);
        due("9 one less", x.back(1), 11);
        due("13 one is burnt", x.behind(5, 1), 4095 - 1);
        due("8 room again", x.burn(5, 1), 12);
        due("13 another one", x.behind(5, 1), 4095 - 2 - 1);
    }

    // Promise 9: "how many are left. BAD; NOT: there is none."
    private static void backToNothing() {
        TakenShade x = people("99.");
        due("9 no picture", x.back(0), NOT);
        due("9 no burning", x.back(1), NOT);
        x.burn(0, 0);
        due("9 no picture, though a burning", x.back(0), NOT);
        due("9 the burning", x.back(1), 0);
        x.picture(0, 0, 1, 0);
        due("9 no burning, though a picture", x.back(1), NOT);
        due("9 the picture", x.back(0), 0);
        for (int i = 0; i < 12; i++) {
            x.picture(i, 0, 1, 0);
            x.burn(i, 0);
        }
        for (int left = 11; left >= 0; left--) {
            due("9 pictures left", x.back(0), left);
            due("9 burnings left", x.back(1), left);
        }
        due("9 no picture any more", x.back(0), NOT);
        due("9 no burning any more", x.back(1), NOT);
        for (int what : new int[] {-1, 2, LEAST, MOST}) {
            due("9 what " + what, x.back(what), BAD);
        }
    }

    // "The last PICTURE": the one told last, whatever its year.
    private static void backTakesTheLastTold() {
        for (int year = 0; year < 30; year += 29) {
            TakenShade x = people("99.");
            x.picture(15, 0, 4, 0);
            x.picture(year, 0, 2, 0);
            x.burn(20, 0);
            x.burn(year == 0 ? 16 : 29, 0);
            due("9 both", x.solid(15, 0), year == 0 ? 93 : 95);
            x.back(0);
            due("9 the last told is undone", x.solid(15, 0), 95);
            due("9 and no other", x.count(2), 1);
            x.back(1);
            due("9 the last burning told is undone", x.solid(19, 0), 95);
            due("9 and no other", x.solid(20, 0), 99);
        }
    }

    // The others stay as told, wherever the undone one stood among the years.
    private static void backFromAmongTheYears() {
        int[] years = {4, 12, 8, 20};
        int[] behind = {3, 4, 8, 9, 12, 13, 17, 20, 25};
        int[] due = {99, 98, 94, 95, 93, 97, 99, 91, 99};
        for (int last = 0; last < 30; last++) {
            TakenShade x = people("99.");
            for (int i = 0; i < years.length; i++) {
                x.picture(years[i], 0, 1 << i, 0);
                x.burn(years[i] + 5, i);
            }
            x.picture(last, 0, 9, 0);
            x.burn(last, 4);
            x.back(0);
            x.back(1);
            for (int i = 0; i < due.length; i++) {
                due("9 without one of " + last + ", behind " + behind[i], x.solid(behind[i], 0), due[i]);
            }
        }
    }

    // A burning is of a number; where no picture has it, there is nothing to burn till one comes.
    private static void burningOfAnUndonePicture() {
        TakenShade x = people("50.");
        x.picture(0, 0, 5, 0);
        x.burn(2, 0);
        x.back(0);
        due("8 nothing to burn", x.solid(29, 0), 50);
        due("13 no picture", x.behind(29, 1), 0);
        x.picture(1, 0, 7, 0);
        due("8 not burnt yet", x.solid(1, 0), 43);
        due("8 burnt", x.solid(2, 0), 50);
    }

    // "YEARS are 0 to 29."
    private static void firstAndLastYear() {
        TakenShade x = people("50.");
        x.picture(29, 0, 3, 0);
        x.picture(0, 0, 2, 0);
        x.burn(29, 1);
        due("12 behind year 0", x.solid(0, 0), 48);
        due("12 behind year 28", x.solid(28, 0), 48);
        due("12 behind year 29", x.solid(29, 0), 47);
        due("13 there in year 28", x.behind(28, 1), 2);
        due("13 there in year 29", x.behind(29, 1), 1);
        x.burn(0, 1);
        due("12 burnt in year 0", x.solid(0, 0), 50);
        for (int year : new int[] {-1, 30, LEAST, MOST}) {
            due("7 year " + year, x.picture(year, 0, 1, 0), BAD);
            due("8 year " + year, x.burn(year, 0), BAD);
            due("12 year " + year, x.solid(year, 0), BAD);
            due("13 year " + year, x.behind(year, 0), BAD);
            due("14 year " + year, x.drawer(year, 0), BAD);
        }
    }

    // "(of PERSONS that there are; others never are)": the last one that there is and the first that there is not.
    private static void personsThatThereAreNot() {
        TakenShade x = people("50.;50.");
        due("7 of the last one", x.picture(0, 1, 5, 0), 1);
        due("7 of the first that there is not", x.picture(0, 2, 5, 0), 2);
        due("7 of the last number", x.picture(0, 7, 5, 0), 3);
        x.burn(1, 1);
        due("13 one is there", x.behind(0, 1), 1);
        due("14 one is held", x.drawer(0, 0), 5);
        due("15 taken", x.took(0, 0), 5);
        due("15 never taken", x.took(1, 0), 0);
        due("15 never taken", x.took(2, 0), 0);
        due("13 nothing is gained by burning it", x.behind(1, 2), 100);
    }

    private static void personsThatCome() {
        TakenShade x = people("50.");
        x.picture(3, 1, 5, 0);
        due("12 nobody to take", x.behind(29, 1), 0);
        Check.typeAll(x, ";30a");
        due("12 the one that came", x.solid(3, 1), 25);
        due("12 and whose twin it is", x.solid(3, 0), 48);
        x.undo();
        due("12 nobody again", x.behind(29, 1), 0);
    }

    // "each TAKES SIZE from its PERSON, or all that is left, if that is less"
    private static void allThatIsLeft() {
        for (int size = 1; size <= 9; size++) {
            for (int solid = 0; solid <= 10; solid++) {
                TakenShade x = people((solid < 10 ? "0" : "") + solid + ".");
                x.picture(0, 0, size, 0);
                String call = size + " of " + solid;
                due("15 " + call, x.took(0, 0), solid < size ? solid : size);
                due("12 " + call, x.solid(0, 0), solid < size ? 0 : solid - size);
                due("14 " + call, x.drawer(0, 0), solid < size ? solid : size);
            }
        }
        TakenShade most = people("99.");
        most.picture(0, 0, 9, 0);
        due("12 9 of 99", most.solid(0, 0), 90);
    }

    // "and from that one's TWIN half of SIZE (cut)"
    private static void halfOfSizeCut() {
        int[] halves = {0, 0, 1, 1, 2, 2, 3, 3, 4, 4};
        for (int size = 1; size <= 9; size++) {
            TakenShade x = people("50b;60.");
            x.picture(0, 0, size, 0);
            due("15 half of " + size, x.took(0, 1), halves[size]);
            due("12 half of " + size, x.solid(0, 1), 60 - halves[size]);
            due("14 both of " + size, x.drawer(0, 0), size + halves[size]);
        }
    }

    // "or all that is left" of the twin, even where the person itself has nothing left.
    private static void allThatIsLeftOfTheTwin() {
        int[] taken = {0, 1, 2, 3, 4, 4, 4};
        for (int left = 0; left < taken.length; left++) {
            TakenShade x = people("50b;0" + left + ".");
            x.picture(0, 0, 9, 0);
            due("15 4 of " + left, x.took(0, 1), taken[left]);
            due("12 4 of " + left, x.solid(0, 1), left - taken[left]);
        }
        TakenShade gone = people("00b;50.");
        gone.picture(0, 0, 9, 0);
        due("15 nothing of its person", gone.took(0, 0), 0);
        due("15 half of its size all the same", gone.took(0, 1), 4);
        due("13 it is there", gone.behind(0, 1), 1);
    }

    // "perhaps itself, or one that there is not: then it is nobody's": nothing more is taken.
    private static void twinOfItself() {
        TakenShade self = people("50a");
        self.picture(0, 0, 9, 0);
        due("12 taken once", self.solid(0, 0), 41);
        due("15 of no twin", self.took(0, 1), 0);
        TakenShade none = people("50b");
        none.picture(0, 0, 9, 0);
        due("12 no twin", none.solid(0, 0), 41);
        due("15 of no twin", none.took(0, 1), 0);
        due("14 no more than that", none.drawer(0, 0), 9);
    }

    // "In a YEAR first its PICTURES are taken, as told": by year, in a year by number.
    private static void asTold() {
        TakenShade x = people("05.");
        x.picture(3, 0, 4, 0);
        x.picture(3, 0, 4, 1);
        x.picture(2, 0, 1, 2);
        due("15 the earlier year is first", x.took(2, 0), 1);
        due("15 then as told", x.took(0, 0), 4);
        due("15 nothing is left", x.took(1, 0), 0);
        x.picture(0, 0, 9, 3);
        due("15 an earlier one takes all", x.took(3, 0), 5);
        due("15 and leaves nothing", x.took(2, 0), 0);
    }

    // "Then its BURNINGS": what is given back in a year is not there for its pictures.
    private static void picturesBeforeBurnings() {
        TakenShade x = people("09.");
        x.picture(0, 0, 9, 0);
        x.burn(1, 0);
        x.picture(1, 0, 9, 1);
        due("15 nothing was left yet", x.took(1, 0), 0);
        due("12 given back behind it", x.solid(1, 0), 9);
        x.picture(2, 0, 9, 1);
        due("15 a year later there is", x.took(2, 0), 9);
        x.burn(2, 2);
        due("12 burnt in its own year", x.solid(2, 0), 9);
        due("15 what it took is told all the same", x.took(2, 0), 9);
    }

    // "a PICTURE that was taken": a year before it there is nothing to burn.
    private static void burningOfWhatWasNotTaken() {
        TakenShade x = people("50.");
        x.burn(4, 0);
        x.burn(5, 11);
        x.picture(5, 0, 8, 0);
        due("8 not taken yet", x.behind(29, 1), 1);
        due("8 it is not burnt later either", x.solid(29, 0), 42);
        x.burn(5, 0);
        due("8 in its own year", x.behind(5, 1), 0);
        due("8 given back", x.solid(5, 0), 50);
    }

    // "and is not burnt yet"
    private static void burntTwice() {
        TakenShade x = people("50b;40.");
        x.picture(0, 0, 8, 0);
        x.burn(1, 0);
        x.burn(1, 0);
        x.burn(2, 0);
        due("8 given back once", x.solid(29, 0), 50);
        due("8 to the twin once", x.solid(29, 1), 40);
        due("13 all is as before", x.behind(29, 2), 90);
    }

    // Pictures of years behind the last of twelve burnings are taken as any others.
    private static void picturesBehindAllBurnings() {
        TakenShade x = people("99b;50.");
        for (int i = 0; i < 12; i++) {
            x.picture(i < 6 ? 0 : 2, 0, 2, 0);
            x.burn(1, i);
        }
        due("12 six are taken", x.solid(0, 0), 87);
        due("12 six are burnt", x.solid(1, 0), 99);
        due("12 six more are taken", x.solid(2, 0), 87);
        due("12 of the twin too", x.solid(2, 1), 44);
        due("13 these are there", x.behind(2, 1), 4095 - 63);
    }

    // "gives back what it TOOK, to each": not its SIZE, and to nobody else.
    private static void givesBackWhatItTook() {
        TakenShade x = people("05b;03a;09.");
        x.picture(0, 0, 9, 0);
        due("12 nothing left", x.solid(0, 0), 0);
        due("12 nothing left of the twin", x.solid(0, 1), 0);
        x.burn(1, 0);
        due("12 five, not nine", x.solid(1, 0), 5);
        due("12 three, not four", x.solid(1, 1), 3);
        due("12 another", x.solid(1, 2), 9);
        due("14 nothing is held", x.drawer(1, 0), 0);
    }

    // "to each": each of the persons 0 to 7 with each of the others as its twin, all that are neither aside.
    private static void givesBackToEveryTwin() {
        for (int person = 0; person < 8; person++) {
            for (int twin = 0; twin < 8; twin++) {
                if (twin != person) {
                    givesBackToTwin(person, twin);
                }
            }
        }
    }

    private static void givesBackToTwin(int person, int twin) {
        TakenShade x = new TakenShade();
        for (int p = 0; p < 8; p++) {
            Check.typeAll(x, (p > 0 ? ";" : "") + (50 + p) + (p == person ? (char) ('a' + twin) : '.'));
        }
        x.picture(3, person, 9, 0);
        x.burn(4, 0);
        for (int p = 0; p < 8; p++) {
            String call = "12 person " + p + ", a picture of " + person + ", its twin is " + twin;
            due(call, x.solid(3, p), 50 + p - (p == person ? 9 : p == twin ? 4 : 0));
            due(call + ": burnt", x.solid(4, p), 50 + p);
        }
    }

    // "One is UNSEEN who is less SOLID than FAINT (0 to 99; 10 at first)."
    private static void lessSolidThanFaint() {
        TakenShade x = people("09.;10.;11.");
        due("13 ten at first", x.behind(0, 0), 1);
        x.faint(11);
        due("13 eleven", x.behind(0, 0), 3);
        x.faint(12);
        due("13 twelve", x.behind(0, 0), 7);
        x.faint(9);
        due("13 nine", x.behind(0, 0), 0);
        TakenShade ends = people("00.;01.;98.;99.");
        ends.faint(0);
        due("13 none is less than 0", ends.behind(0, 0), 0);
        ends.faint(1);
        due("13 nothing left", ends.behind(0, 0), 1);
        ends.faint(99);
        due("13 all but 99", ends.behind(0, 0), 7);
    }

    // Promise 10: "FAINT: what it was. BAD."
    private static void faintFrom0To99() {
        TakenShade x = new TakenShade();
        due("10 ten at first", x.faint(0), 10);
        due("10 nought", x.faint(99), 0);
        for (int v : new int[] {-1, 100, LEAST, MOST}) {
            due("10 faint(" + v + ")", x.faint(v), BAD);
            due("10 as it was", x.count(5), 99);
        }
        due("10 ninety-nine", x.faint(99), 99);
    }

    // Promise 11: "WANT (PERSON 0 to 7, NONE): what it was. BAD." NONE at first; persons need not be there.
    private static void wantsFromNoneTo7() {
        TakenShade x = new TakenShade();
        for (int drawer = 0; drawer < 4; drawer++) {
            due("11 none at first", x.want(drawer, 0), NONE);
            due("11 person 0", x.want(drawer, 7), 0);
            for (int person : new int[] {-2, 8, LEAST, MOST}) {
                due("11 want " + person, x.want(drawer, person), BAD);
            }
            due("11 person 7, as it was", x.want(drawer, NONE), 7);
            due("11 none", x.want(drawer, drawer), NONE);
        }
        for (int drawer = 0; drawer < 4; drawer++) {
            due("11 each its own", x.want(drawer, drawer), drawer);
        }
        for (int drawer : new int[] {-1, 4, LEAST, MOST}) {
            due("11 drawer " + drawer, x.want(drawer, 0), BAD);
        }
    }

    // "who is UNSEEN, as bits": from bit 0 to bit 7.
    private static void unseenAsBits() {
        for (int person = 0; person < 8; person++) {
            TakenShade x = people("10.;10.;10.;10.;10.;10.;10.;10.");
            x.picture(0, person, 1, 0);
            due("13 person " + person, x.behind(0, 0), 1 << person);
        }
        due("13 all eight", people("00.;00.;00.;00.;00.;00.;00.;00.").behind(29, 0), 255);
        due("13 none of eight", people("99.;99.;99.;99.;99.;99.;99.;99.").behind(29, 0), 0);
        for (int what : new int[] {-1, 3, LEAST, MOST}) {
            due("13 what " + what, people("00.").behind(0, what), BAD);
        }
    }

    // "PICTURES that there are (taken, not burnt), as bits": from bit 0 to bit 11.
    private static void picturesAsBits() {
        TakenShade x = people("99.");
        for (int i = 0; i < 12; i++) {
            x.picture(i, 0, 1, 0);
            x.burn(i + 12, i);
        }
        for (int year = 0; year < 30; year++) {
            int taken = (1 << Math.min(year + 1, 12)) - 1;
            int burnt = (1 << Math.max(0, Math.min(year - 11, 12))) - 1;
            due("13 there behind " + year, x.behind(year, 1), taken - burnt);
        }
        due("13 all twelve", x.behind(11, 1), 4095);
        due("13 none", x.behind(23, 1), 0);
        due("13 none that took nothing is left out", tookNothing().behind(0, 1), 1);
    }

    private static TakenShade tookNothing() {
        TakenShade x = people("00.");
        x.picture(0, 0, 9, 0);
        return x;
    }

    // "what a DRAWER holds (all that its PICTURES that there are TOOK, of both)": of none and of all twelve.
    private static void drawerFullAndEmpty() {
        for (int drawer = 0; drawer < 4; drawer++) {
            TakenShade x = people("99b;99a");
            due("14 empty", x.drawer(29, drawer), 0);
            for (int i = 0; i < 12; i++) {
                x.picture(0, i % 2, 9, drawer);
            }
            due("14 all twelve", x.drawer(0, drawer), 12 * (9 + 4));
            for (int other = 0; other < 4; other++) {
                due("14 in drawer " + other, x.drawer(29, other), other == drawer ? 156 : 0);
            }
            for (int i = 0; i < 12; i++) {
                x.burn(1, i);
            }
            due("14 all burnt", x.drawer(1, drawer), 0);
        }
        for (int drawer : new int[] {-1, 4, LEAST, MOST}) {
            due("14 drawer " + drawer, people("99.").drawer(0, drawer), BAD);
        }
    }

    // "ALL: how SOLID all are together, with what all DRAWERS hold, behind a YEAR."
    private static void allTogether() {
        due("13 nobody", new TakenShade().behind(0, 2), 0);
        TakenShade x = people("99b;99c;99d;99e;99f;99g;99h;99a");
        due("13 the most", x.behind(0, 2), 792);
        for (int i = 0; i < 12; i++) {
            x.picture(i, i % 8, 9, i % 4);
            x.burn(29 - i, i);
        }
        for (int year = 0; year < 30; year++) {
            due("13 nothing is lost behind " + year, x.behind(year, 2), 792);
        }
    }

    // Promise 15: "BAD: no such PICTURE."; "(0: never)"
    private static void tookNever() {
        TakenShade x = people("50b;50.");
        due("15 none told", x.took(0, 0), BAD);
        x.picture(29, 0, 9, 0);
        x.picture(0, 5, 9, 0);
        due("15 of the last year", x.took(0, 0), 9);
        due("15 of its twin", x.took(0, 1), 4);
        due("15 never", x.took(1, 0), 0);
        due("15 never of a twin", x.took(1, 1), 0);
        for (int picture : new int[] {-1, 2, 12, LEAST, MOST}) {
            due("15 picture " + picture, x.took(picture, 0), BAD);
            due("15 picture " + picture, x.took(picture, 1), BAD);
        }
        for (int what : new int[] {-1, 2, LEAST, MOST}) {
            due("15 what " + what, x.took(0, what), BAD);
        }
    }

    // "FIRST UNSEEN: the YEAR behind which one is UNSEEN that was not at first": in each of the years 0 to 29.
    private static void firstUnseenInEveryYear() {
        for (int year = 0; year < 30; year++) {
            TakenShade x = people("10.");
            x.picture(year, 0, 1, 0);
            due("16 year " + year, x.unseen(0), year);
            due("16 who", x.unseen(1), 0);
            x.burn(year, 0);
            due("16 given back in year " + year, x.unseen(0), NONE);
            due("16 nobody", x.unseen(1), NONE);
            x.back(1);
            if (year < 29) {
                x.burn(year + 1, 0);
                due("16 given back behind year " + year, x.unseen(0), year);
            }
        }
        for (int what : new int[] {-1, 2, LEAST, MOST}) {
            due("16 what " + what, people("10.").unseen(what), BAD);
        }
    }

    // "who, the least": of one year, not of a later one.
    private static void firstUnseenIsTheLeast() {
        TakenShade x = people("10.;10.;10.;10.;10.;10.;10.;10.");
        x.picture(5, 7, 1, 0);
        due("16 the last person", x.unseen(1), 7);
        x.picture(5, 6, 1, 0);
        due("16 a lesser one of that year", x.unseen(1), 6);
        x.picture(6, 0, 1, 0);
        due("16 none of a later year", x.unseen(1), 6);
        x.picture(4, 3, 1, 0);
        due("16 one of an earlier year", x.unseen(1), 3);
        due("16 that year", x.unseen(0), 4);
    }

    // "that was not at first"; "NONE".
    private static void unseenAtFirstIsNone() {
        TakenShade x = people("09.;99.");
        x.picture(0, 0, 9, 0);
        due("16 unseen at first", x.unseen(0), NONE);
        due("16 nobody anew", x.unseen(1), NONE);
        x.faint(9);
        due("16 not so with FAINT 9", x.unseen(0), 0);
        x.faint(0);
        due("16 nobody with FAINT 0", x.unseen(0), NONE);
        x.faint(99);
        due("16 99 is no less than 99", x.unseen(0), NONE);
        x.picture(29, 1, 1, 0);
        due("16 98 is less than 99", x.unseen(0), 29);
        due("16 nobody at all", new TakenShade().unseen(0), NONE);
        due("16 nobody at all", new TakenShade().unseen(1), NONE);
    }
}
