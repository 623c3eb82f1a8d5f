/** The boundary cases of plans: WHOLE, FEAST, SPY and SWAP, promises 17 to 20. A test for each sentence. */
public final class PlanBoundaryTests {
    private static final int NONE = TakenShade.NONE;
    private static final int BAD = TakenShade.BAD;
    private static final int LEAST = Integer.MIN_VALUE;
    private static final int MOST = Integer.MAX_VALUE;

    private static final Check check = new Check();

    public static void main(String[] args) {
        wholeAsItIs();
        wholeByOneMore();
        wholeByAllTwelve();
        wholeOutOfReach();
        wholeOfPicturesThatThereAre();
        wholeIsTheFewest();
        wholeAtTheLeastLoss();
        wholeByTheLeastBits();
        wholeSparesADrawer();
        wholeForATwin();
        wholeRefuses();
        feastDownToFaint();
        feastOfTheUnseen();
        feastFullAndEmpty();
        feastLeavesTwinsAside();
        feastRefuses();
        spyUnseenAlready();
        spyUpTo99();
        spyNeverUnseen();
        spyBehindAllOthers();
        spyRefuses();
        swapRests();
        swapLeastAndLastPair();
        swapOfAnyDrawersAndPersons();
        swapNeedsMoreJoyOfBoth();
        swapsNoneAndSix();
        swapsWithSomeLeftOver();
        swapsOfFourOwners();
        swapsByEveryWant();
        swapOnlyWhatIsThere();
        swapRefuses();
        check.end();
    }

    private static void due(String call, long got, long want) {
        check.due(call, got, want);
    }

    private static TakenShade people(String text) {
        return Check.people(text);
    }

    private static void wholeIs(String call, TakenShade x, int solid, int spared, int bits, int loss) {
        due("17 " + call, x.whole(29, 0, solid, spared, 0), bits);
        due("17 " + call + ": loss", x.whole(29, 0, solid, spared, 1), loss);
    }

    // "make it as SOLID as told (0 to 99), or more": where it is so already, none is burnt.
    private static void wholeAsItIs() {
        TakenShade x = people("50.");
        wholeIs("no pictures, 0", x, 0, NONE, 0, 0);
        wholeIs("no pictures, just so", x, 50, NONE, 0, 0);
        wholeIs("no pictures, one more", x, 51, NONE, NONE, NONE);
        wholeIs("no pictures, the most", x, 99, NONE, NONE, NONE);
        x.picture(0, 0, 9, 0);
        wholeIs("0", x, 0, NONE, 0, 0);
        wholeIs("just so", x, 41, NONE, 0, 0);
        TakenShade nothing = people("00.");
        wholeIs("nothing, as told", nothing, 0, NONE, 0, 0);
        wholeIs("nothing, one more", nothing, 1, NONE, NONE, NONE);
    }

    private static void wholeByOneMore() {
        TakenShade x = people("50.");
        x.picture(0, 0, 9, 0);
        wholeIs("one more than it is", x, 42, NONE, 1, 9);
        wholeIs("all that it was", x, 50, NONE, 1, 9);
        wholeIs("one more than it was", x, 51, NONE, NONE, NONE);
        x.picture(1, 0, 9, 0);
        wholeIs("just by one picture", x, 41, NONE, 1, 9);
        wholeIs("not just by one picture", x, 42, NONE, 3, 18);
    }

    // All twelve pictures, and the most that can be lost by them.
    private static void wholeByAllTwelve() {
        TakenShade x = people("99b;99.");
        for (int i = 0; i < 12; i++) {
            x.picture(i, 0, 8, i % 4);
        }
        wholeIs("all twelve", x, 99, NONE, 4095, 12 * 12);
        wholeIs("eleven", x, 91, NONE, 2047, 11 * 12);
        wholeIs("all twelve again", x, 92, NONE, 4095, 12 * 12);
        wholeIs("the last drawer is spared", x, 92, 3, 4095, 9 * 12);
        TakenShade gone = people("99.");
        for (int i = 0; i < 12; i++) {
            gone.picture(0, 0, 9, 0);
        }
        wholeIs("from nothing to the most", gone, 99, NONE, 2047, 99);
        wholeIs("from nothing to one", gone, 1, NONE, 1, 9);
        TakenShade most = people("00b;99.");
        for (int i = 0; i < 12; i++) {
            most.picture(0, 0, 9, 0);
        }
        due("17 the twin of one who has nothing", most.whole(0, 1, 99, NONE, 0), 4095);
        due("17 what it took of it", most.whole(0, 1, 99, NONE, 1), 48);
    }

    // "NONE"
    private static void wholeOutOfReach() {
        TakenShade x = people("98.");
        x.picture(0, 0, 9, 0);
        wholeIs("98", x, 98, 0, 1, 0);
        wholeIs("99", x, 99, 0, NONE, NONE);
        TakenShade empty = people("00.");
        empty.picture(0, 0, 9, 0);
        wholeIs("a picture that took nothing", empty, 0, NONE, 0, 0);
        wholeIs("a picture that took nothing", empty, 1, NONE, NONE, NONE);
    }

    // "PICTURES that there are behind a YEAR"
    private static void wholeOfPicturesThatThereAre() {
        TakenShade x = people("50.");
        x.picture(4, 0, 9, 0);
        x.picture(10, 5, 9, 0);
        x.burn(8, 0);
        due("17 not taken yet", x.whole(3, 0, 50, NONE, 0), 0);
        due("17 taken", x.whole(4, 0, 50, NONE, 0), 1);
        due("17 not burnt yet", x.whole(7, 0, 50, NONE, 0), 1);
        due("17 burnt", x.whole(8, 0, 50, NONE, 0), 0);
        due("17 never taken", x.whole(29, 0, 51, NONE, 0), NONE);
        due("17 asking burns nothing", x.behind(4, 1), 1);
        due("17 nor tells a burning", x.count(3), 1);
    }

    // "the fewest": one dear picture rather than two cheap ones.
    private static void wholeIsTheFewest() {
        TakenShade x = people("90b;90.");
        x.picture(0, 0, 1, 0);
        x.picture(0, 0, 1, 0);
        x.picture(0, 0, 9, 1);
        wholeIs("two, by one picture", x, 81, 0, 4, 13);
        wholeIs("one, by the first", x, 80, 0, 1, 0);
    }

    // "of like ones those by which what DRAWERS but a told one (NONE: none is spared) lose is least"
    private static void wholeAtTheLeastLoss() {
        TakenShade x = people("90b;90.");
        x.picture(0, 0, 9, 0);
        x.picture(0, 0, 8, 0);
        x.picture(0, 0, 7, 0);
        x.picture(0, 0, 6, 0);
        wholeIs("six by the last", x, 66, NONE, 8, 9);
        wholeIs("seven by the third", x, 67, NONE, 4, 10);
        wholeIs("eight by the second", x, 68, NONE, 2, 12);
        wholeIs("nine by the first", x, 69, NONE, 1, 13);
        wholeIs("ten by the last two", x, 70, NONE, 12, 19);
    }

    // "of like ones the least bits"
    private static void wholeByTheLeastBits() {
        TakenShade x = people("99.");
        for (int i = 0; i < 12; i++) {
            x.picture(29 - i, 0, 2, i % 4);
        }
        wholeIs("one of twelve", x, 77, NONE, 1, 2);
        wholeIs("two of twelve", x, 78, NONE, 3, 4);
        wholeIs("six of twelve", x, 87, NONE, 63, 12);
        wholeIs("two of the last drawer", x, 78, 3, 8 + 128, 0);
        wholeIs("four, with one that is lost", x, 82, 3, 1 + 8 + 128 + 2048, 2);
    }

    private static void wholeSparesADrawer() {
        TakenShade x = people("90.");
        for (int drawer = 0; drawer < 4; drawer++) {
            x.picture(0, 0, 5, drawer);
        }
        wholeIs("none is spared", x, 71, NONE, 1, 5);
        for (int spared = 0; spared < 4; spared++) {
            wholeIs("spared " + spared, x, 71, spared, 1 << spared, 0);
        }
    }

    // A picture gives back to each, so those of whom one is a twin count too, by half.
    private static void wholeForATwin() {
        TakenShade x = people("30.;50a;40.");
        x.picture(0, 1, 9, 0);
        x.picture(0, 2, 9, 0);
        x.picture(0, 1, 1, 0);
        wholeIs("by the one whose twin it is", x, 27, NONE, 1, 13);
        wholeIs("all four", x, 30, NONE, 1, 13);
        wholeIs("no other helps", x, 31, NONE, NONE, NONE);
    }

    // Promise 17: "BAD."
    private static void wholeRefuses() {
        TakenShade x = people("50.;60.");
        x.picture(0, 0, 9, 0);
        due("17 year 0", x.whole(0, 0, 50, NONE, 0), 1);
        due("17 year 29", x.whole(29, 1, 60, 3, 1), 0);
        for (int year : new int[] {-1, 30, LEAST, MOST}) {
            due("17 year " + year, x.whole(year, 0, 50, NONE, 0), BAD);
        }
        for (int person : new int[] {-1, 2, 7, LEAST, MOST}) {
            due("17 person " + person, x.whole(0, person, 50, NONE, 0), BAD);
        }
        for (int solid : new int[] {-1, 100, LEAST, MOST}) {
            due("17 solid " + solid, x.whole(0, 0, solid, NONE, 0), BAD);
        }
        for (int spared : new int[] {-2, 4, LEAST, MOST}) {
            due("17 spared " + spared, x.whole(0, 0, 50, spared, 0), BAD);
        }
        for (int what : new int[] {-1, 2, LEAST, MOST}) {
            due("17 what " + what, x.whole(0, 0, 50, NONE, what), BAD);
        }
    }

    // "may be taken at most so that none that is not UNSEEN falls below FAINT": to FAINT itself one may fall.
    private static void feastDownToFaint() {
        for (int size = 1; size <= 9; size++) {
            TakenShade x = people("50.");
            x.faint(50 - size);
            due("18 just to FAINT, size " + size, x.feast(0, size), 1);
            x.faint(51 - size);
            due("18 one below FAINT, size " + size, x.feast(0, size), 0);
            x.faint(50 - 2 * size);
            due("18 twice, size " + size, x.feast(0, size), 2);
        }
    }

    private static void feastOfTheUnseen() {
        TakenShade x = people("10.;09.;00.");
        due("18 as solid as FAINT, and less", x.feast(0, 1), 0);
        x.faint(9);
        due("18 one more than FAINT", x.feast(0, 1), 1);
        x.picture(3, 0, 2, 0);
        due("18 the year before", x.feast(2, 1), 1);
        due("18 unseen behind it", x.feast(3, 1), 0);
    }

    private static void feastFullAndEmpty() {
        due("18 nobody", new TakenShade().feast(0, 1), 0);
        TakenShade x = people("99.;99.;99.;99.;99.;99.;99.;99.");
        x.faint(0);
        due("18 the most", x.feast(29, 1), 792);
        due("18 the most of 9", x.feast(29, 9), 88);
        x.faint(99);
        due("18 none", x.feast(29, 1), 0);
    }

    // "each of one PERSON, TWINS aside"
    private static void feastLeavesTwinsAside() {
        TakenShade x = people("30b;30a");
        due("18 as if none were a twin", x.feast(0, 9), 4);
        due("18 as if none were a twin", x.feast(0, 2), 20);
    }

    // Promise 18: "BAD."; "PICTURES of a SIZE (1 to 9)"
    private static void feastRefuses() {
        TakenShade x = people("50.");
        due("18 size 1", x.feast(29, 1), 40);
        due("18 size 9", x.feast(29, 9), 4);
        for (int size : new int[] {0, 10, -1, LEAST, MOST}) {
            due("18 size " + size, x.feast(0, size), BAD);
        }
        for (int year : new int[] {-1, 30, LEAST, MOST}) {
            due("18 year " + year, x.feast(year, 1), BAD);
        }
    }

    // "the fewest PICTURES more (0 to 99)": 0.
    private static void spyUnseenAlready() {
        TakenShade x = people("09.;10.;00.");
        due("19 unseen already", x.spy(0, 0, 1), 0);
        due("19 as solid as FAINT", x.spy(0, 1, 1), 1);
        due("19 nothing left", x.spy(0, 2, 9), 0);
        x.picture(5, 1, 1, 0);
        due("19 the year before", x.spy(4, 1, 1), 1);
        due("19 unseen behind it", x.spy(5, 1, 1), 0);
    }

    // "(0 to 99)": 99, and each size down to 1.
    private static void spyUpTo99() {
        TakenShade x = people("99.");
        int[] many = {0, 99, 50, 33, 25, 20, 17, 15, 13, 11};
        x.faint(1);
        for (int size = 1; size <= 9; size++) {
            due("19 to nothing, size " + size, x.spy(29, 0, size), many[size]);
        }
        x.faint(2);
        due("19 to one", x.spy(29, 0, 1), 98);
        x.faint(99);
        due("19 by one", x.spy(29, 0, 9), 1);
        x.faint(91);
        due("19 just below", x.spy(29, 0, 9), 1);
        x.faint(90);
        due("19 not by the first", x.spy(29, 0, 9), 2);
    }

    // "NONE": nobody is less than 0, and what is given back in the year may be enough.
    private static void spyNeverUnseen() {
        TakenShade x = people("00.;99.");
        x.faint(0);
        due("19 nothing left", x.spy(0, 0, 9), NONE);
        due("19 FAINT 0", x.spy(29, 1, 9), NONE);
        x.faint(9);
        x.picture(3, 1, 9, 0);
        x.burn(3, 0);
        due("19 nine come back", x.spy(3, 1, 9), NONE);
        due("19 a year later they are there to take", x.spy(4, 1, 9), 11);
        x.faint(10);
        due("19 nine are less than ten", x.spy(3, 1, 9), 10);
    }

    // "taken behind all others of it"
    private static void spyBehindAllOthers() {
        TakenShade x = people("50b;50.");
        x.picture(2, 0, 5, 0);
        due("19 before the year", x.spy(1, 0, 5), 9);
        due("19 in the year", x.spy(2, 0, 5), 8);
        due("19 behind it", x.spy(3, 0, 5), 8);
        due("19 its twin", x.spy(2, 1, 5), 8);
        due("19 asking takes nothing", x.solid(29, 0), 45);
        due("19 nor tells a picture", x.count(2), 1);
    }

    // Promise 19: "BAD."
    private static void spyRefuses() {
        TakenShade x = people("50.;50.");
        for (int year : new int[] {-1, 30, LEAST, MOST}) {
            due("19 year " + year, x.spy(year, 0, 1), BAD);
        }
        for (int person : new int[] {-1, 2, 7, LEAST, MOST}) {
            due("19 person " + person, x.spy(0, person, 1), BAD);
        }
        for (int size : new int[] {0, 10, -1, LEAST, MOST}) {
            due("19 size " + size, x.spy(0, 0, size), BAD);
        }
    }

    private static void restsAt(String call, TakenShade x, int year) {
        due("20 " + call + ": the one", x.swap(year, 0), NONE);
        due("20 " + call + ": the other", x.swap(year, 1), NONE);
        due("20 " + call + ": how many", x.swap(year, 2), 0);
    }

    // "NONE: it RESTS."
    private static void swapRests() {
        restsAt("nobody", new TakenShade(), 0);
        TakenShade x = people("50.;50.");
        x.want(0, 1);
        x.want(1, 0);
        restsAt("no pictures", x, 29);
        x.picture(0, 0, 1, 0);
        restsAt("one picture", x, 29);
        x.picture(0, 1, 1, 0);
        restsAt("two in one drawer", x, 29);
        x.picture(0, 1, 1, 1);
        due("20 two drawers", x.swap(29, 2), 1);
    }

    // "the least pair of PICTURES of two DRAWERS (the lesser number, then the other)": from 0 and 1 to 10 and 11.
    private static void swapLeastAndLastPair() {
        for (int one = 0; one < 12; one++) {
            for (int other = one + 1; other < 12; other++) {
                TakenShade x = people("99.;99.;99.");
                for (int i = 0; i < 12; i++) {
                    x.picture(0, i == one ? 0 : i == other ? 1 : 2, 1, i == one ? 0 : i == other ? 3 : i % 4);
                }
                x.want(0, 1);
                x.want(3, 0);
                due("20 the one", x.swap(0, 0), one);
                due("20 the other", x.swap(0, 1), other);
                due("20 then it rests", x.swap(0, 2), 1);
            }
        }
        TakenShade both = people("99.;99.");
        both.picture(9, 1, 1, 1);
        both.picture(8, 0, 1, 0);
        both.picture(7, 0, 1, 0);
        both.picture(6, 1, 1, 1);
        both.want(0, 1);
        both.want(1, 0);
        due("20 the lesser number, not the earlier year", both.swap(29, 0), 0);
        due("20 then the least other", both.swap(29, 1), 1);
    }

    // "WANT of a DRAWER's owner: a PERSON (0 to 7; NONE at first)": any two drawers, any two persons.
    private static void swapOfAnyDrawersAndPersons() {
        for (int drawer = 0; drawer < 4; drawer++) {
            for (int other = 0; other < 4; other++) {
                for (int person = 0; person < 8; person++) {
                    for (int another = 0; another < 8; another++) {
                        swapsOf(drawer, other, person, another);
                    }
                }
            }
        }
    }

    /** Three pictures of a person in a drawer, and three of another in another, each wanted by the other's owner. */
    private static void swapsOf(int drawer, int other, int person, int another) {
        TakenShade x = people("99.;99.;99.;99.;99.;99.;99.;99.");
        x.want(drawer, another);
        x.want(other, person);
        for (int i = 0; i < 3; i++) {
            x.picture(0, person, 1, drawer);
        }
        for (int i = 0; i < 3; i++) {
            x.picture(0, another, 1, other);
        }
        boolean isGain = drawer != other && person != another;
        String call = "20 drawers " + drawer + ", " + other + ", persons " + person + ", " + another;
        due(call + ": the one", x.swap(0, 0), isGain ? 0 : NONE);
        due(call + ": the other", x.swap(0, 1), isGain ? 3 : NONE);
        due(call + ": how many", x.swap(0, 2), isGain ? 3 : 0);
    }

    // "gives both owners more JOY": not as much, not to one alone.
    private static void swapNeedsMoreJoyOfBoth() {
        TakenShade x = people("99.;99.");
        x.picture(0, 0, 1, 0);
        x.picture(0, 1, 1, 1);
        x.want(0, 1);
        restsAt("the other wants none", x, 0);
        x.want(1, 1);
        restsAt("the other has what it wants", x, 0);
        x.want(1, 7);
        restsAt("the other wants one who is not there", x, 0);
        x.want(1, 0);
        due("20 both", x.swap(0, 2), 1);
        x.want(0, NONE);
        restsAt("the first wants none", x, 0);
        TakenShade like = people("99.");
        like.picture(0, 0, 1, 0);
        like.picture(0, 0, 1, 1);
        like.want(0, 0);
        like.want(1, 0);
        restsAt("like pictures", like, 0);
    }

    // "SWAPS: how many such, one behind another (each the least), till it RESTS": from none to six of twelve.
    private static void swapsNoneAndSix() {
        TakenShade x = people("99.;99.");
        x.want(0, 1);
        x.want(3, 0);
        for (int pairs = 0; pairs < 6; pairs++) {
            due("20 pairs", x.swap(0, 2), pairs);
            x.picture(0, 0, 1, 0);
            due("20 one without another", x.swap(0, 2), pairs);
            x.picture(0, 1, 1, 3);
        }
        due("20 six", x.swap(0, 2), 6);
        due("20 asking changes nothing", x.swap(0, 2), 6);
        due("20 nor moves a picture", x.drawer(0, 3), 6);
    }

    // "till it RESTS": what was changed once is where it is wanted, so those left over stay.
    private static void swapsWithSomeLeftOver() {
        for (int many = 1; many <= 6; many++) {
            for (int other = 1; other <= 6; other++) {
                TakenShade x = people("99.;99.");
                x.want(0, 1);
                x.want(3, 0);
                for (int i = 0; i < 6; i++) {
                    if (i < many) {
                        x.picture(0, 0, 1, 0);
                    }
                    if (i < other) {
                        x.picture(0, 1, 1, 3);
                    }
                }
                due("20 of " + many + " and " + other, x.swap(0, 2), Math.min(many, other));
            }
        }
    }

    // "one behind another": among four owners, where a picture that was changed is not changed again.
    private static void swapsOfFourOwners() {
        TakenShade x = people("99.;99.;99.;99.");
        int[] wants = {3, 2, 3, 2};
        for (int drawer = 0; drawer < 4; drawer++) {
            x.want(drawer, wants[drawer]);
        }
        int[][] pictures = {{2, 0}, {3, 1}, {2, 2}, {3, 3}, {2, 0}, {3, 1}, {2, 2}, {0, 0}, {1, 1}, {3, 0}, {2, 3}};
        for (int[] picture : pictures) {
            x.picture(0, picture[0], 1, picture[1]);
        }
        due("20 the least", x.swap(0, 0), 0);
        due("20 the other", x.swap(0, 1), 1);
        due("20 four of person 2, three of person 3", x.swap(0, 2), 3);
        x.picture(0, 3, 1, 3);
        due("20 four of each", x.swap(0, 2), 4);
    }

    // "till it RESTS": a picture that was changed is where it is wanted, so of two kinds that are wanted for each other
    // as many are changed as the fewer are. All that four owners may want of four persons.
    private static void swapsByEveryWant() {
        int[] persons = {1, 2, 3, 0, 3, 2, 1, 1, 2, 0, 0, 3};
        int[] drawers = {0, 1, 2, 3, 1, 0, 3, 2, 2, 1, 0, 0};
        for (int code = 0; code < 256; code++) {
            TakenShade x = people("99.;99.;99.;99.");
            for (int i = 0; i < 12; i++) {
                x.picture(0, persons[i], 1, drawers[i]);
            }
            int[][] many = new int[4][4];
            for (int drawer = 0; drawer < 4; drawer++) {
                x.want(drawer, code >> 2 * drawer & 3);
            }
            for (int i = 0; i < 12; i++) {
                many[code >> 2 * drawers[i] & 3][persons[i]]++;
            }
            int due = 0;
            for (int one = 0; one < 4; one++) {
                for (int other = one + 1; other < 4; other++) {
                    due += Math.min(many[one][other], many[other][one]);
                }
            }
            due("20 wants " + code, x.swap(0, 2), due);
        }
    }

    // "(behind a YEAR; PICTURES that there are)"
    private static void swapOnlyWhatIsThere() {
        TakenShade x = people("99.;99.");
        x.picture(3, 0, 1, 0);
        x.picture(4, 1, 1, 1);
        x.picture(0, 7, 1, 0);
        x.burn(6, 0);
        x.want(0, 1);
        x.want(1, 0);
        restsAt("not taken yet", x, 3);
        due("20 taken", x.swap(4, 1), 1);
        due("20 not burnt yet", x.swap(5, 0), 0);
        restsAt("burnt", x, 6);
        x.want(1, 7);
        restsAt("never taken", x, 5);
    }

    // Promise 20: "BAD."
    private static void swapRefuses() {
        TakenShade x = people("50.;50.");
        for (int year : new int[] {-1, 30, LEAST, MOST}) {
            due("20 year " + year, x.swap(year, 0), BAD);
            due("20 year " + year, x.swap(year, 2), BAD);
        }
        for (int what : new int[] {-1, 3, LEAST, MOST}) {
            due("20 what " + what, x.swap(0, what), BAD);
        }
    }
}
