/** The boundary cases of what was seen, of towns, chance and seeds: promises 21 to 29. A test for each sentence. */
public final class SeenBoundaryTests {
    private static final int NONE = TakenShade.NONE;
    private static final int BAD = TakenShade.BAD;
    private static final int FULL = TakenShade.FULL;
    private static final int NULL = -11;
    private static final int LEAST = Integer.MIN_VALUE;
    private static final int MOST = Integer.MAX_VALUE;
    private static final long LONG_BAD = Long.MIN_VALUE + 2;

    private static final Check check = new Check();

    public static void main(String[] args) {
        eightSeen();
        seenFirstAndLast();
        forgetNoneAndAll();
        readAsManyAsAreWhole();
        readTillFull();
        readAsLongAsEachMayBe();
        readByForms();
        readRefuses();
        neverWithoutPictures();
        neverWithNothingSeen();
        neverFirstAndLast();
        neverAgainstTheYears();
        neverWhereItTookNothing();
        neverOfNobody();
        sizesFrom1To9();
        sizesOfEachPicture();
        sizesCut();
        sizesOfNobody();
        sizesRefuse();
        townInTheFirstYear();
        townInTheLastYear();
        townCutsTourists();
        townGrowsIfAnythingIsLeft();
        townRefuses();
        tollAtItsEnds();
        tollWithinTheYearsOfATown();
        tollRefuses();
        shotsByNoneAndBySixteen();
        shotsInLowestTerms();
        shotsOneAndTen();
        shotsJustUnseen();
        shotsByThemselves();
        shotsRefuse();
        seedsThatWrap();
        upperBitsFrom0On();
        platesOfAllYears();
        platesBehindPictures();
        platesTakeAllThatIsLeft();
        platesTakeFromTheTwin();
        platesWithPicturesOfAllYears();
        platesRefuse();
        check.end();
    }

    private static void due(String call, long got, long want) {
        check.due(call, got, want);
    }

    private static TakenShade people(String text) {
        return Check.people(text);
    }

    // "SEEN, 8 at most"; promise 21: "how many. BAD; FULL."
    private static void eightSeen() {
        TakenShade x = people("50.");
        x.picture(0, 0, 9, 0);
        for (int many = 1; many <= 8; many++) {
            due("21 seen " + many, x.seen(0, 0, 50), many);
        }
        due("21 a ninth", x.seen(0, 0, 41), FULL);
        due("21 eight", x.count(4), 8);
        due("24 the ninth does not matter", x.never(), 1);
        due("22 forgotten", x.forget(), 8);
        due("21 room again", x.seen(0, 0, 41), 1);
    }

    // "behind a YEAR a PERSON (0 to 7) was so SOLID (0 to 99)": both ends, whether there is such a person or not.
    private static void seenFirstAndLast() {
        TakenShade x = new TakenShade();
        due("21 the least", x.seen(0, 0, 0), 1);
        due("21 the most", x.seen(29, 7, 99), 2);
        for (int year : new int[] {-1, 30, LEAST, MOST}) {
            due("21 year " + year, x.seen(year, 0, 0), BAD);
        }
        for (int person : new int[] {-1, 8, LEAST, MOST}) {
            due("21 person " + person, x.seen(0, person, 0), BAD);
        }
        for (int solid : new int[] {-1, 100, LEAST, MOST}) {
            due("21 solid " + solid, x.seen(0, 0, solid), BAD);
        }
        due("21 two", x.count(4), 2);
    }

    // Promise 22: "All SEEN are forgotten: how many."
    private static void forgetNoneAndAll() {
        TakenShade x = people("50.");
        x.picture(0, 0, 9, 0);
        due("22 none", x.forget(), 0);
        x.seen(0, 0, 7);
        due("24 not so", x.never(), 0);
        due("22 one", x.forget(), 1);
        due("24 nothing seen any more", x.never(), 1);
        due("22 none again", x.forget(), 0);
    }

    // Promise 23: "three for each, as many as are whole": of 0 to 60 items, as far as there is room.
    private static void readAsManyAsAreWhole() {
        for (int items = 0; items <= 60; items++) {
            TakenShade x = new TakenShade();
            x.sheet(0, items % 3, items);
            int due = Math.min(items / 3, 8);
            due("23 of " + items + " items", x.read(0), due);
            due("23 seen of " + items + " items", x.count(4), due);
            due("23 the sheet stays", x.lose(0), items);
        }
    }

    // "as long as each may be": a ninth may not, and what was seen before stays.
    private static void readTillFull() {
        for (int before = 0; before <= 8; before++) {
            TakenShade x = new TakenShade();
            for (int i = 0; i < before; i++) {
                x.seen(0, 0, 0);
            }
            x.sheet(3, 0, 12);
            due("23 four behind " + before, x.read(3), Math.min(4, 8 - before));
            due("23 in all behind " + before, x.count(4), Math.min(8, before + 4));
            due("23 a full one is no finding", x.count(8), 0);
        }
    }

    // "as long as each may be": the last numbers that may be, the first that may not, and nothing behind those.
    private static void readAsLongAsEachMayBe() {
        int[][] threes = {{0, 0, 0}, {29, 7, 99}, {30, 0, 0}, {-1, 0, 0}, {0, 8, 0}, {0, -1, 0}, {0, 0, 100}, {0, 0, -1},
            {LEAST, 0, 0}, {0, MOST, 0}, {0, 0, LEAST}};
        for (int i = 0; i < threes.length; i++) {
            for (int place = 0; place < 3; place++) {
                TakenShade x = new TakenShade();
                x.sheet(1, 2, 9);
                for (int k = 0; k < 3; k++) {
                    x.lay(1, 2, 3 * place + k, threes[i][k]);
                }
                String call = "23 row " + i + " in place " + place;
                due(call, x.read(1), i < 2 ? 3 : place);
                due(call + ": seen", x.count(4), i < 2 ? 3 : place);
                due(call + ": no finding", x.count(8), 0);
            }
        }
    }

    // Items are numbers as narrow as their FORM.
    private static void readByForms() {
        TakenShade x = people("50.");
        x.picture(29, 0, 9, 0);
        for (int form = 0; form < 3; form++) {
            x.forget();
            x.sheet(form, form, 3);
            x.lay(form, form, 0, 29);
            x.lay(form, form, 2, 41);
            due("23 form " + form, x.read(form), 1);
            due("25 as seen", x.sizes(0), 256);
        }
        x.lay(0, 0, 0, 256 + 28);
        due("23 a byte's lowest bits", x.read(0), 1);
        due("25 not so a year before", x.sizes(0), 0);
        x.lay(0, 0, 0, 255);
        due("23 a byte below 0", x.read(0), 0);
        x.lay(1, 1, 0, 256 + 28);
        due("23 a short that is no year", x.read(1), 0);
    }

    // Promise 23: "BAD; NULL."
    private static void readRefuses() {
        TakenShade x = new TakenShade();
        for (int s : new int[] {-1, 4, LEAST, MOST}) {
            due("23 sheet " + s, x.read(s), BAD);
            due("23 no finding", x.count(8), 0);
        }
        for (int s = 0; s < 4; s++) {
            due("23 lost " + s, x.read(s), NULL);
            x.sheet(s, 0, 0);
            due("23 empty " + s, x.read(s), 0);
        }
        due("23 nothing seen", x.count(4), 0);
    }

    // "NEVER: PICTURES (told)": where none is told, none.
    private static void neverWithoutPictures() {
        due("24 nobody", new TakenShade().never(), 0);
        TakenShade x = people("50.");
        due("24 nothing seen", x.never(), 0);
        x.seen(0, 0, 50);
        due("24 as it is", x.never(), 0);
    }

    // "makes all that was SEEN come out so": all that was seen is nothing.
    private static void neverWithNothingSeen() {
        TakenShade x = people("50.");
        for (int many = 1; many <= 12; many++) {
            x.picture(29, many % 8, 1, 0);
            due("24 of " + many, x.never(), (1 << many) - 1);
        }
    }

    // "as bits": from picture 0 to picture 11, in years from 0 to 29.
    private static void neverFirstAndLast() {
        for (int picture = 0; picture < 12; picture++) {
            TakenShade x = people("99.;99.");
            for (int i = 0; i < 12; i++) {
                x.picture(i == 11 ? 29 : i, i == picture ? 1 : 0, 2, 0);
            }
            x.seen(29, 1, 99);
            due("24 picture " + picture, x.never(), 1 << picture);
            x.seen(29, 0, 77);
            due("24 and all others as told", x.never(), 1 << picture);
            x.seen(29, 0, 79);
            due("24 not both", x.never(), 0);
        }
    }

    // The bits are the numbers as told, though the years go the other way.
    private static void neverAgainstTheYears() {
        TakenShade x = people("99.");
        for (int i = 0; i < 12; i++) {
            x.picture(11 - i, 0, 1, 0);
        }
        for (int year = 0; year < 12; year++) {
            x.forget();
            x.seen(year, 0, 99 - year);
            due("24 one of those to year " + year, x.never(), 4095 - ((1 << 11 - year) - 1));
            if (year > 0) {
                x.seen(year - 1, 0, 99 - year);
                due("24 the one of year " + year, x.never(), 1 << 11 - year);
            }
        }
    }

    // "had it alone never been taken": where it took nothing all comes out as it does with it.
    private static void neverWhereItTookNothing() {
        TakenShade x = people("05.");
        x.picture(0, 0, 9, 0);
        x.picture(1, 0, 9, 0);
        x.seen(1, 0, 0);
        due("24 either takes all", x.never(), 3);
        x.seen(0, 0, 0);
        due("24 the second took nothing", x.never(), 2);
        x.forget();
        x.seen(0, 0, 5);
        due("24 the first was not taken", x.never(), 1);
        x.seen(1, 0, 0);
        due("24 then the second takes all", x.never(), 1);
    }

    private static void neverOfNobody() {
        TakenShade x = people("50.");
        x.picture(0, 0, 9, 0);
        x.seen(0, 1, 0);
        due("24 seen was one who is not there", x.never(), 0);
        due("25 so it never comes out", x.sizes(0), 0);
        Check.typeAll(x, ";00.");
        due("24 till that one comes", x.never(), 1);
        due("25 till that one comes", x.sizes(0), 511);
    }

    // "SIZES that a PICTURE may have had ... as bits (bit 0 for 1)": each of 1 to 9, whatever its own.
    private static void sizesFrom1To9() {
        for (int own = 1; own <= 9; own++) {
            for (int size = 1; size <= 9; size++) {
                TakenShade x = people("50.");
                x.picture(29, 0, own, 0);
                due("25 nothing seen", x.sizes(0), 511);
                x.seen(29, 0, 50 - size);
                due("25 size " + size + " in place of " + own, x.sizes(0), 1 << size - 1);
            }
            TakenShade none = people("50.");
            none.picture(0, 0, own, 0);
            none.seen(0, 0, 50);
            due("25 not by 0", none.sizes(0), 0);
            none.forget();
            none.seen(0, 0, 40);
            due("25 not by 10", none.sizes(0), 0);
        }
    }

    // "SIZES that a PICTURE may have had": of the one asked for, from picture 0 to picture 11.
    private static void sizesOfEachPicture() {
        for (int picture = 0; picture < 12; picture++) {
            TakenShade x = people("99.;50.");
            for (int i = 0; i < 12; i++) {
                x.picture(i % 2 == 0 ? i : 29 - i, i == picture ? 1 : 0, 3, 0);
            }
            x.seen(29, 1, 44);
            for (int i = 0; i < 12; i++) {
                due("25 picture " + i + " where " + picture + " took six", x.sizes(i), i == picture ? 1 << 5 : 0);
            }
            x.forget();
            x.seen(29, 1, 47);
            for (int i = 0; i < 12; i++) {
                due("25 picture " + i + " where " + picture + " took three", x.sizes(i), i == picture ? 1 << 2 : 511);
            }
        }
    }

    private static void sizesCut() {
        TakenShade x = people("50b;50.");
        x.picture(0, 0, 5, 0);
        int[] bits = {1, 2 + 4, 8 + 16, 32 + 64, 128 + 256, 0};
        for (int half = 0; half < bits.length; half++) {
            x.forget();
            x.seen(0, 1, 50 - half);
            due("25 half is " + half, x.sizes(0), bits[half]);
        }
        TakenShade thin = people("04.");
        thin.picture(0, 0, 1, 0);
        thin.seen(0, 0, 0);
        due("25 all that is left", thin.sizes(0), 511 - 7);
        TakenShade gone = people("00.");
        gone.picture(0, 0, 1, 0);
        gone.seen(0, 0, 0);
        due("25 nothing to take", gone.sizes(0), 511);
    }

    private static void sizesOfNobody() {
        TakenShade x = people("50.");
        x.picture(0, 7, 1, 0);
        x.seen(29, 0, 50);
        due("25 one that is never taken", x.sizes(0), 511);
        x.seen(29, 0, 49);
        due("25 not so", x.sizes(0), 0);
    }

    // Promise 25: "BAD: no such PICTURE."
    private static void sizesRefuse() {
        TakenShade x = people("50.");
        due("25 none told", x.sizes(0), BAD);
        for (int many = 1; many <= 12; many++) {
            x.picture(0, 0, 1, 0);
            due("25 the last one", x.sizes(many - 1), 511);
            due("25 none behind it", x.sizes(many), BAD);
        }
        for (int picture : new int[] {-1, 12, LEAST, MOST}) {
            due("25 picture " + picture, x.sizes(picture), BAD);
        }
    }

    // "TOWN: so SOLID (1 to 999) ... the first YEAR ... in which nothing is left": year 0.
    private static void townInTheFirstYear() {
        TakenShade x = new TakenShade();
        due("26 just nothing", x.town(1, 10, 0), 0);
        due("26 more than it has", x.town(1, 999, 99), 0);
        due("26 99 of 99", x.town(99, 999, 99), 0);
        due("26 99 of 100", x.town(100, 999, 0), 1);
        due("26 none come", x.town(1, 0, 0), NONE);
        due("26 none come", x.town(999, 0, 99), NONE);
    }

    // "(to 99)"; "NONE".
    private static void townInTheLastYear() {
        TakenShade x = new TakenShade();
        due("26 in year 98", x.town(99, 10, 0), 98);
        due("26 in year 99", x.town(100, 10, 0), 99);
        due("26 not in year 100", x.town(101, 10, 0), NONE);
        due("26 in year 99, though it grows", x.town(198, 999, 98), 99);
        due("26 not in year 100, though it grows", x.town(199, 999, 98), NONE);
        due("26 the most solid", x.town(999, 990, 0), 10);
        due("26 the most solid, in year 99", x.town(999, 100, 0), 99);
        due("26 the most solid, never", x.town(999, 99, 0), NONE);
    }

    // "it loses one for each ten TOURISTS (0 to 999; cut)"
    private static void townCutsTourists() {
        TakenShade x = new TakenShade();
        due("26 nine", x.town(1, 9, 0), NONE);
        due("26 ten", x.town(1, 10, 0), 0);
        due("26 nineteen", x.town(2, 19, 0), 1);
        due("26 twenty", x.town(2, 20, 0), 0);
        due("26 989", x.town(99, 989, 0), 1);
        due("26 990", x.town(99, 990, 0), 0);
        due("26 999", x.town(100, 999, 0), 1);
    }

    // "then, if anything is left, it gains GROWS (0 to 99), to as much as at first"
    private static void townGrowsIfAnythingIsLeft() {
        TakenShade x = new TakenShade();
        due("26 nothing left grows no more", x.town(5, 50, 99), 0);
        due("26 one left grows again", x.town(6, 50, 99), NONE);
        due("26 as much as it loses", x.town(6, 50, 5), NONE);
        due("26 one less than it loses", x.town(6, 50, 4), 1);
        due("26 two left", x.town(7, 50, 4), 2);
        due("26 no growth", x.town(7, 50, 0), 1);
    }

    // Promise 26: "BAD."
    private static void townRefuses() {
        TakenShade x = new TakenShade();
        for (int solid : new int[] {0, 1000, -1, LEAST, MOST}) {
            due("26 solid " + solid, x.town(solid, 0, 0), BAD);
        }
        for (int tourists : new int[] {-1, 1000, LEAST, MOST}) {
            due("26 tourists " + tourists, x.town(1, tourists, 0), BAD);
        }
        for (int grows : new int[] {-1, 100, LEAST, MOST}) {
            due("26 grows " + grows, x.town(1, 0, grows), BAD);
        }
    }

    // "TOLL: the most TOURISTS (0 to 999) by which it is never so."
    private static void tollAtItsEnds() {
        TakenShade x = new TakenShade();
        due("27 one, no growth", x.toll(1, 0), 9);
        due("27 one, the most growth", x.toll(1, 99), 9);
        due("27 two", x.toll(2, 99), 19);
        due("27 99 solid", x.toll(99, 99), 989);
        due("27 100 solid", x.toll(100, 99), 999);
        due("27 as it grows", x.toll(100, 98), 989);
        due("27 the most", x.toll(999, 99), 999);
        due("27 by one", x.toll(50, 1), 19);
        due("27 by none", x.toll(50, 0), 9);
        for (int grows = 0; grows <= 98; grows++) {
            due("27 grows " + grows, x.toll(100, grows), 10 * grows + 9);
        }
    }

    // A town's years go to 99, and so what is never so is looked at till then.
    private static void tollWithinTheYearsOfATown() {
        TakenShade x = new TakenShade();
        due("27 in year 99", x.toll(100, 0), 9);
        due("27 in year 100", x.toll(101, 0), 19);
        due("27 in year 99, though it grows", x.toll(198, 98), 989);
        due("27 in year 100, though it grows", x.toll(199, 98), 999);
    }

    // Promise 27: "BAD."
    private static void tollRefuses() {
        TakenShade x = new TakenShade();
        for (int solid : new int[] {0, 1000, -1, LEAST, MOST}) {
            due("27 solid " + solid, x.toll(solid, 0), BAD);
        }
        for (int grows : new int[] {-1, 100, LEAST, MOST}) {
            due("27 grows " + grows, x.toll(1, grows), BAD);
        }
    }

    private static void chance(String call, TakenShade x, int[] arguments, long above, long below) {
        int c = arguments[0];
        int n = arguments[1];
        int size = arguments[2];
        due("28 " + call + ": above", x.shots(c, 0, n, 0, size, 0), above);
        due("28 " + call + ": below", x.shots(c, 0, n, 0, size, 1), below);
    }

    // "by c sixteenths (0 to 16)"; "(0 by 1)".
    private static void shotsByNoneAndBySixteen() {
        TakenShade x = people("10.");
        for (int n = 1; n <= 10; n++) {
            chance("never", x, new int[] {0, n, 9}, 0, 1);
            chance("surely", x, new int[] {16, n, 1}, 1, 1);
        }
        TakenShade unseen = people("09.");
        for (int c = 0; c <= 16; c++) {
            chance("unseen already", unseen, new int[] {c, 10, 9}, 1, 1);
        }
        TakenShade solid = people("00.");
        solid.faint(0);
        for (int c = 0; c <= 16; c++) {
            chance("never with FAINT 0", solid, new int[] {c, 10, 9}, 0, 1);
        }
    }

    // "FRACTIONS are told in lowest terms, above and below"
    private static void shotsInLowestTerms() {
        TakenShade x = people("10.");
        long[] below = {1, 16, 8, 16, 4, 16, 8, 16, 2, 16, 8, 16, 4, 16, 8, 16, 1};
        for (int c = 0; c <= 16; c++) {
            chance(c + " sixteenths", x, new int[] {c, 1, 1}, c * below[c] / 16, below[c]);
        }
        // Two shots by four sixteenths, one at least: 1 less 9 sixteenths.
        chance("two shots", x, new int[] {4, 2, 1}, 7, 16);
        TakenShade two = people("11.");
        chance("both of two", two, new int[] {4, 2, 1}, 1, 16);
        chance("both of two by twelve", two, new int[] {12, 2, 1}, 9, 16);
    }

    // "in each of n (1 to 10) YEARS": the greatest numbers of all.
    private static void shotsOneAndTen() {
        TakenShade x = people("19.");
        chance("one shot is not enough", x, new int[] {15, 1, 9}, 0, 1);
        chance("all of ten by one", x, new int[] {1, 10, 1}, 1, 1L << 40);
        chance("all of ten by fifteen", x, new int[] {15, 10, 1}, 576650390625L, 1L << 40);
        chance("nine are not enough", x, new int[] {16, 9, 1}, 0, 1);
        TakenShade one = people("10.");
        chance("one at least of ten by eight", one, new int[] {8, 10, 1}, 1023, 1024);
        chance("one at least of ten by one", one, new int[] {1, 10, 1}, (1L << 40) - 576650390625L, 1L << 40);
        TakenShade most = people("99.");
        most.faint(89);
        chance("ten of ten leave 89", most, new int[] {16, 10, 1}, 0, 1);
        most.faint(90);
        chance("ten of ten by eight", most, new int[] {8, 10, 1}, 1, 1024);
        most.faint(9);
        chance("ten nines leave 9", most, new int[] {16, 10, 9}, 0, 1);
    }

    // "UNSEEN then": less than FAINT, or nothing left where that is less.
    private static void shotsJustUnseen() {
        TakenShade x = people("18.");
        chance("nine leave nine", x, new int[] {8, 1, 9}, 1, 2);
        x.faint(9);
        chance("nine are no less than nine", x, new int[] {8, 1, 9}, 0, 1);
        TakenShade thin = people("05.");
        thin.faint(1);
        chance("all that is left", thin, new int[] {8, 1, 9}, 1, 2);
        chance("all that is left, by two shots", thin, new int[] {8, 2, 9}, 3, 4);
        chance("not all", thin, new int[] {8, 1, 4}, 0, 1);
    }

    // "behind a YEAR ... by itself (nothing else)": what is told of later years does not matter, nor is there a last.
    private static void shotsByThemselves() {
        TakenShade x = people("12.;12a");
        x.picture(3, 0, 1, 0);
        x.picture(5, 0, 9, 0);
        x.burn(6, 0);
        due("28 before", x.shots(8, 2, 3, 0, 1, 0), 1);
        due("28 before", x.shots(8, 2, 3, 0, 1, 1), 8);
        due("28 behind the first", x.shots(8, 3, 2, 0, 1, 0), 1);
        due("28 behind the first", x.shots(8, 3, 2, 0, 1, 1), 4);
        due("28 behind the last year", x.shots(8, 29, 10, 1, 1, 1), 128);
        // Three at least of ten by a half: 1024 less 1, 10 and 45, which is 968 of 1024.
        due("28 behind the last year", x.shots(8, 29, 10, 1, 1, 0), 121);
        due("28 asking takes nothing", x.solid(29, 1), 12);
    }

    // Promise 28: "BAD. (As the least long.)"
    private static void shotsRefuse() {
        TakenShade x = people("50.;50.");
        for (int c : new int[] {-1, 17, LEAST, MOST}) {
            due("28 c " + c, x.shots(c, 0, 1, 0, 1, 0), LONG_BAD);
        }
        for (int year : new int[] {-1, 30, LEAST, MOST}) {
            due("28 year " + year, x.shots(1, year, 1, 0, 1, 0), LONG_BAD);
        }
        for (int n : new int[] {0, 11, -1, LEAST, MOST}) {
            due("28 n " + n, x.shots(1, 0, n, 0, 1, 0), LONG_BAD);
        }
        for (int person : new int[] {-1, 2, 7, LEAST, MOST}) {
            due("28 person " + person, x.shots(1, 0, 1, person, 1, 0), LONG_BAD);
        }
        for (int size : new int[] {0, 10, -1, LEAST, MOST}) {
            due("28 size " + size, x.shots(1, 0, 1, 0, size, 0), LONG_BAD);
        }
        for (int what : new int[] {-1, 2, LEAST, MOST}) {
            due("28 what " + what, x.shots(1, 0, 1, 0, 1, what), LONG_BAD);
        }
    }

    private static void lots(int seed, int person, int size) {
        TakenShade x = people("50.;50.;50.;50.;50.;50.;50.;50.");
        for (int p = 0; p < 8; p++) {
            due("29 seed " + seed + ", person " + p, x.plates(seed, 0, p), p == person ? 50 - size : 50);
        }
    }

    // "SEED becomes 1103515245 SEED and 12345, as ints that wrap": any int is a seed. The first lots' upper bits stand
    // behind each, reckoned apart.
    private static void seedsThatWrap() {
        lots(0, 0, 3); // 0, 54236
        lots(1, 6, 7); // 16838, 38526
        lots(-1, 1, 9); // 48697, 4409
        lots(LEAST, 0, 4); // 32768, 21468
        lots(MOST, 1, 8); // 15929, 37177
        lots(7, 4, 6); // 52332, 9806
    }

    // "its upper 16 bits as a number from 0 on, modulo m": from 32768 on too; sizes from 1 to 9, persons from 0 to 7.
    private static void upperBitsFrom0On() {
        due("29 54236 modulo 9 is 2", people("50.").plates(0, 0, 0), 47);
        due("29 56934 modulo 9 is 0", people("50.").plates(4, 0, 0), 49);
        due("29 28214 modulo 9 is 8", people("50.").plates(10, 0, 0), 41);
        TakenShade x = people("50.;50.;50.;50.;50.;50.;50.;50.");
        check.isNot("29 18655 modulo 8 is 7", x.plates(5, 0, 7), 50);
        TakenShade three = people("50.;50.;50.");
        check.isNot("29 48697 modulo 3 is 1", three.plates(-1, 0, 1), 50);
        check.isNot("29 32768 modulo 3 is 2", three.plates(LEAST, 0, 2), 50);
    }

    // "in each YEAR from 0 to a told one": the seed goes on from year to year; sixty lots, reckoned apart.
    private static void platesOfAllYears() {
        TakenShade eight = people("99.;99.;99.;99.;99.;99.;99.;99.");
        int[][] left = {{72, 78, 69, 95, 81, 79, 87, 87}, {84, 80, 77, 85, 97, 67, 79, 86},
            {66, 78, 79, 88, 88, 78, 86, 81}, {76, 77, 75, 84, 96, 67, 78, 85}};
        int[] seeds = {0, -1, LEAST, MOST};
        for (int i = 0; i < seeds.length; i++) {
            for (int p = 0; p < 8; p++) {
                due("29 seed " + seeds[i] + ", person " + p, eight.plates(seeds[i], 29, p), left[i][p]);
            }
        }
        TakenShade three = people("99.;99.;99.");
        due("29 of three", three.plates(7, 29, 0), 45);
        due("29 of three", three.plates(7, 29, 1), 43);
        due("29 of three", three.plates(7, 29, 2), 40);
        due("29 asking takes nothing", three.solid(29, 0), 99);
    }

    // "behind its PICTURES": they leave less for the lot, and the year's burnings still come behind it.
    private static void platesBehindPictures() {
        TakenShade x = people("05.");
        x.picture(0, 0, 3, 0);
        due("29 seed 0 would take 3, and two are left", x.plates(0, 0, 0), 0);
        x.burn(0, 0);
        due("29 three come back behind it", x.plates(0, 0, 0), 3);
        TakenShade twins = people("50b;50.");
        due("29 3 of the one", twins.plates(0, 0, 0), 47);
        due("29 half of 3 of its twin", twins.plates(0, 0, 1), 49);
        due("29 and half of 4", twins.plates(0, 1, 1), 47);
        twins.picture(1, 1, 9, 0);
        due("29 with a picture of year 1, behind year 0", twins.plates(0, 0, 1), 49);
        due("29 with a picture of year 1", twins.plates(0, 1, 1), 38);
    }

    private static void platesTakeAllThatIsLeft() {
        TakenShade x = people("03b;01.");
        due("29 just all", x.plates(0, 0, 0), 0);
        due("29 all of its twin", x.plates(0, 0, 1), 0);
        due("29 nothing is left", x.plates(0, 29, 0), 0);
        due("29 seed 0 takes 3", people("04.").plates(0, 0, 0), 1);
        due("29 seed 0 takes 3", people("02.").plates(0, 0, 0), 0);
    }

    // "a PICTURE of that PERSON", so of its twin half is taken, whoever it is: seed -1 takes 9 of person 1, seed 1 takes
    // 7 of person 6.
    private static void platesTakeFromTheTwin() {
        TakenShade x = people("50b;50d;50.;50.;50.;50.;50f;50.");
        for (int p = 0; p < 8; p++) {
            due("29 9 of 1, 4 of 3, person " + p, x.plates(-1, 0, p), 50 - (p == 1 ? 9 : p == 3 ? 4 : 0));
            due("29 7 of 6, 3 of 5, person " + p, x.plates(1, 0, p), 50 - (p == 6 ? 7 : p == 5 ? 3 : 0));
        }
    }

    // "behind its PICTURES": each year's own are taken and burnt, those of later years are not yet.
    private static void platesWithPicturesOfAllYears() {
        TakenShade x = people("99.");
        x.picture(2, 0, 7, 0);
        x.picture(0, 0, 5, 0);
        x.picture(1, 0, 6, 0);
        due("29 seed 0 takes 3", x.plates(0, 0, 0), 99 - 5 - 3);
        due("29 seed 0 takes 3, 4", x.plates(0, 1, 0), 99 - 5 - 3 - 6 - 4);
        x.burn(1, 1);
        x.burn(2, 0);
        due("29 not burnt yet", x.plates(0, 0, 0), 99 - 5 - 3);
        due("29 burnt in year 1", x.plates(0, 1, 0), 99 - 3 - 6 - 4);
    }

    // Promise 29: "BAD."
    private static void platesRefuse() {
        TakenShade x = people("50.;50.");
        for (int year : new int[] {-1, 30, LEAST, MOST}) {
            due("29 year " + year, x.plates(0, year, 0), BAD);
        }
        for (int person : new int[] {-1, 2, 7, LEAST, MOST}) {
            due("29 person " + person, x.plates(0, 0, person), BAD);
        }
        due("29 nobody", new TakenShade().plates(0, 0, 0), BAD);
    }
}
