import java.util.Arrays;

/**
 * People who grow thinner with each picture that is taken of them, the pictures, their burnings and drawers, and
 * what can be reckoned from these. The document's numbered promises say what each call answers.
 *
 * <p>All rows are made with the object and used again by every call, so no call makes anything new.
 */
public final class TakenShade {
    public static final int NONE = -1, BAD = -2, NOT = -3, FULL = -4;

    private static final int MOST_BYTES = 31;
    private static final int MOST_PERSONS = 8;
    private static final int MOST_PICTURES = 12;
    private static final int MOST_BURNINGS = 12;
    private static final int MOST_SEEN = 8;
    private static final int MOST_ITEMS = 60;
    private static final int LAST_YEAR = 29;
    private static final int LAST_TOWN_YEAR = 99;
    private static final int DRAWERS = 4;
    private static final int SHEETS = 4;
    private static final int MOST_SOLID = 99;
    private static final int MOST_SIZE = 9;
    private static final int MOST_SHOTS = 10;
    private static final int MOST_SPYING = 99;
    private static final int MOST_TOWN = 999;
    private static final int MOST_TOURISTS = 999;
    private static final int MOST_GROWTH = 99;
    private static final int SIXTEENTHS = 16;

    private static final int BYTES = 0;
    private static final int SHORTS = 1;
    private static final int INTS = 2;

    private static final int FOUND_NOTHING = 0;
    private static final int FOUND_NULL = 1;
    private static final int FOUND_INDEX = 2;
    private static final int FOUND_CAST = 3;
    private static final int FOUND_STORE = 4;
    private static final int FOUND_SIZE = 5;

    private final People people = new People();
    private final Pictures pictures = new Pictures();
    private final Burnings burnings = new Burnings();
    private final Course course = new Course(people, pictures, burnings);
    private final Rescue rescue = new Rescue();
    private final Collectors collectors = new Collectors();
    private final Witness witness = new Witness();
    private final Chance chance = new Chance();
    private final Sheet[] sheets = new Sheet[SHEETS];
    private int faintness = 10;
    private int finding = FOUND_NOTHING;

    public TakenShade() {
        for (int s = 0; s < SHEETS; s++) {
            sheets[s] = new Sheet();
        }
    }

    // ---- people, pictures

    public int type(int b) {
        if (!isWithin(b, 0, 255)) {
            return BAD;
        }
        if (people.length() >= MOST_BYTES) {
            return FULL;
        }
        people.append(b);
        return people.length();
    }

    public int wipe() {
        int had = people.length();
        people.cutTo(0);
        return had;
    }

    public int undo() {
        if (people.length() == 0) {
            return NOT;
        }
        people.cutTo(people.length() - 1);
        return people.length();
    }

    public int fault() {
        return people.faultPlace();
    }

    public int person(int person, int what) {
        if (!people.has(person) || !isWithin(what, 0, 1)) {
            return BAD;
        }
        return what == 0 ? people.solidAtFirst(person) : people.twinOf(person);
    }

    public int picture(int year, int person, int size, int drawer) {
        if (!isYear(year) || !isWithin(person, 0, MOST_PERSONS - 1) || !isSize(size) || !isDrawer(drawer)) {
            return BAD;
        }
        return pictures.add(year, person, size, drawer) ? pictures.howMany() : FULL;
    }

    public int burn(int year, int picture) {
        if (!isYear(year) || !isWithin(picture, 0, MOST_PICTURES - 1)) {
            return BAD;
        }
        return burnings.add(year, picture) ? burnings.howMany() : FULL;
    }

    public int back(int what) {
        if (!isWithin(what, 0, 1)) {
            return BAD;
        }
        Roll roll = what == 0 ? pictures.roll : burnings.roll;
        return roll.dropLast() ? roll.howMany() : NOT;
    }

    public int faint(int v) {
        if (!isWithin(v, 0, MOST_SOLID)) {
            return BAD;
        }
        int was = faintness;
        faintness = v;
        return was;
    }

    public int want(int drawer, int person) {
        if (!isDrawer(drawer) || !isWithin(person, NONE, MOST_PERSONS - 1)) {
            return BAD;
        }
        return collectors.changeWant(drawer, person);
    }

    // ---- years

    public int solid(int year, int person) {
        if (!isYear(year) || !people.has(person)) {
            return BAD;
        }
        course.goThrough(year);
        return course.solidOf(person);
    }

    public int behind(int year, int what) {
        if (!isYear(year) || !isWithin(what, 0, 2)) {
            return BAD;
        }
        course.goThrough(year);
        if (what == 0) {
            return course.unseenBits(faintness);
        }
        return what == 1 ? course.thereBits() : course.allTogether();
    }

    public int drawer(int year, int drawer) {
        if (!isYear(year) || !isDrawer(drawer)) {
            return BAD;
        }
        course.goThrough(year);
        return course.heldBy(drawer);
    }

    public int took(int picture, int what) {
        if (!pictures.has(picture) || !isWithin(what, 0, 1)) {
            return BAD;
        }
        course.goThrough(LAST_YEAR);
        return what == 0 ? course.tookOfPerson(picture) : course.tookOfTwin(picture);
    }

    public int unseen(int what) {
        if (!isWithin(what, 0, 1)) {
            return BAD;
        }
        course.begin();
        int unseenAtFirst = course.unseenBits(faintness);
        for (int year = 0; year <= LAST_YEAR; year++) {
            course.pass(year);
            int fresh = course.unseenBits(faintness) & ~unseenAtFirst;
            if (fresh != 0) {
                return what == 0 ? year : lowestOf(fresh);
            }
        }
        return NONE;
    }

    // ---- plans

    public int whole(int year, int person, int solid, int spared, int what) {
        if (!isYear(year) || !people.has(person) || !isWithin(solid, 0, MOST_SOLID)
                || !isWithin(spared, NONE, DRAWERS - 1) || !isWithin(what, 0, 1)) {
            return BAD;
        }
        course.goThrough(year);
        if (!rescue.plan(course, person, solid, spared)) {
            return NONE;
        }
        return what == 0 ? rescue.burntBits() : rescue.loss();
    }

    public int feast(int year, int size) {
        if (!isYear(year) || !isSize(size)) {
            return BAD;
        }
        course.goThrough(year);
        int sum = 0;
        for (int person = 0; person < people.howMany(); person++) {
            int spare = course.solidOf(person) - faintness;
            sum += spare > 0 ? spare / size : 0;
        }
        return sum;
    }

    public int spy(int year, int person, int size) {
        if (!isYear(year) || !people.has(person) || !isSize(size)) {
            return BAD;
        }
        course.goThrough(year - 1);
        course.takeAllOf(year);
        int beforeBurnings = course.solidOf(person);
        course.burnAllOf(year);
        int givenBack = course.solidOf(person) - beforeBurnings;
        for (int more = 0; more <= MOST_SPYING; more++) {
            if (Math.max(beforeBurnings - more * size, 0) + givenBack < faintness) {
                return more;
            }
        }
        return NONE;
    }

    public int swap(int year, int what) {
        if (!isYear(year) || !isWithin(what, 0, 2)) {
            return BAD;
        }
        course.goThrough(year);
        collectors.gather(pictures, course.thereBits());
        if (what == 2) {
            return collectors.swapTillRest();
        }
        int pair = collectors.findSwap();
        if (pair == NONE) {
            return NONE;
        }
        return what == 0 ? pair / MOST_PICTURES : pair % MOST_PICTURES;
    }

    // ---- seen, towns, chance

    public int seen(int year, int person, int solid) {
        if (!isSighting(year, person, solid)) {
            return BAD;
        }
        return witness.add(year, person, solid) ? witness.howMany() : FULL;
    }

    public int forget() {
        int had = witness.howMany();
        witness.clear();
        return had;
    }

    public int read(int s) {
        if (!isSheet(s)) {
            return BAD;
        }
        Sheet from = sheets[s];
        if (from.isLost()) {
            return found(FOUND_NULL);
        }
        int done = 0;
        for (int i = 0; i + 2 < from.length(); i += 3) {
            int year = from.item(i);
            int person = from.item(i + 1);
            int solid = from.item(i + 2);
            if (!isSighting(year, person, solid) || !witness.add(year, person, solid)) {
                break;
            }
            done++;
        }
        return done;
    }

    public int never() {
        int bits = 0;
        for (int picture = 0; picture < pictures.howMany(); picture++) {
            if (witness.isBorneOut(course, picture, 0)) {
                bits |= 1 << picture;
            }
        }
        return bits;
    }

    public int sizes(int picture) {
        if (!pictures.has(picture)) {
            return BAD;
        }
        int bits = 0;
        for (int size = 1; size <= MOST_SIZE; size++) {
            if (witness.isBorneOut(course, picture, size)) {
                bits |= 1 << (size - 1);
            }
        }
        return bits;
    }

    public int town(int solid, int tourists, int grows) {
        if (!isTown(solid, grows) || !isWithin(tourists, 0, MOST_TOURISTS)) {
            return BAD;
        }
        return endOfTown(solid, tourists / 10, grows);
    }

    public int toll(int solid, int grows) {
        if (!isTown(solid, grows)) {
            return BAD;
        }
        // Ten tourists take one, so of those who take alike the most are told by a last figure of 9.
        for (int loss = MOST_TOURISTS / 10; loss > 0; loss--) {
            if (endOfTown(solid, loss, grows) == NONE) {
                return loss * 10 + 9;
            }
        }
        return 9;
    }

    public long shots(int c, int year, int n, int person, int size, int what) {
        if (!isWithin(c, 0, SIXTEENTHS) || !isYear(year) || !isWithin(n, 1, MOST_SHOTS)
                || !people.has(person) || !isSize(size) || !isWithin(what, 0, 1)) {
            return Long.MIN_VALUE - BAD;
        }
        course.goThrough(year);
        chance.countWays(c, n);
        chance.weighUnseen(course.solidOf(person), size, n, faintness);
        return what == 0 ? chance.above() : chance.below();
    }

    public int plates(int seed, int year, int person) {
        if (!isYear(year) || !people.has(person)) {
            return BAD;
        }
        course.begin();
        int lot = seed;
        for (int y = 0; y <= year; y++) {
            course.takeAllOf(y);
            lot = nextSeed(lot);
            int whom = lotOf(lot, people.howMany());
            lot = nextSeed(lot);
            course.takeUncounted(whom, lotOf(lot, MOST_SIZE) + 1);
            course.burnAllOf(y);
        }
        return course.solidOf(person);
    }

    // ---- sheets

    public int sheet(int s, int form, int n) {
        if (!isSheet(s) || !isForm(form) || n > MOST_ITEMS) {
            return BAD;
        }
        if (n < 0) {
            return found(FOUND_SIZE);
        }
        sheets[s].renew(form, n);
        return n;
    }

    public int lose(int s) {
        if (!isSheet(s)) {
            return BAD;
        }
        if (sheets[s].isLost()) {
            return found(FOUND_NULL);
        }
        int had = sheets[s].length();
        sheets[s].becomeLost();
        return had;
    }

    public int lay(int s, int form, int i, int v) {
        if (!isSheet(s) || !isForm(form)) {
            return BAD;
        }
        int trouble = sheets[s].troubleWith(form, i);
        if (trouble != FOUND_NOTHING) {
            return found(trouble);
        }
        sheets[s].putItem(i, v);
        return 1;
    }

    public int get(int s, int form, int i) {
        if (!isSheet(s) || !isForm(form)) {
            return Integer.MIN_VALUE;
        }
        int trouble = sheets[s].troubleWith(form, i);
        if (trouble != FOUND_NOTHING) {
            finding = trouble;
            return Integer.MIN_VALUE;
        }
        return sheets[s].item(i);
    }

    public int copy(int s, int i, int t, int j, int n) {
        if (!isSheet(s) || !isSheet(t)) {
            return BAD;
        }
        Sheet from = sheets[s];
        Sheet to = sheets[t];
        if (from.isLost() || to.isLost()) {
            return found(FOUND_NULL);
        }
        if (!to.isLike(from)) {
            return found(FOUND_STORE);
        }
        if (!from.hasRun(i, n) || !to.hasRun(j, n)) {
            return found(FOUND_INDEX);
        }
        to.putRun(j, from, i, n);
        return 1;
    }

    public int write(int year, int s) {
        if (!isYear(year) || !isSheet(s)) {
            return BAD;
        }
        Sheet to = sheets[s];
        if (to.isLost()) {
            return found(FOUND_NULL);
        }
        course.goThrough(year);
        int many = Math.min(to.length(), people.howMany());
        for (int person = 0; person < many; person++) {
            to.putItem(person, course.solidOf(person));
        }
        return many;
    }

    public int count(int what) {
        switch (what) {
            case 0: return people.howMany();
            case 1: return people.length();
            case 2: return pictures.howMany();
            case 3: return burnings.howMany();
            case 4: return witness.howMany();
            case 5: return faintness;
            case 6: return people.allAtFirst();
            case 7: return people.howManyTwins();
            case 8: return finding;
            default: return BAD;
        }
    }

    public long digest() {
        long h = 17;
        for (int what = 0; what <= 7; what++) {
            h = mix(h, count(what));
        }
        h = mix(h, fault());
        for (int person = 0; person < people.howMany(); person++) {
            h = mixPerson(h, person);
        }
        for (int picture = 0; picture < pictures.howMany(); picture++) {
            h = mix(h, took(picture, 0));
            h = mix(h, took(picture, 1));
            h = mix(h, sizes(picture));
        }
        h = mixYear(h, 0);
        h = mixYear(h, 5);
        h = mixYear(h, 29);
        h = mix(h, unseen(0));
        h = mix(h, unseen(1));
        h = mix(h, never());
        h = mix(h, town(99, 55, 2));
        return mix(h, toll(99, 2));
    }

    private long mixPerson(long start, int person) {
        long h = mix(start, person(person, 0));
        h = mix(h, person(person, 1));
        h = mix(h, solid(5, person));
        h = mix(h, solid(29, person));
        h = mix(h, whole(9, person, 50, NONE, 0));
        h = mix(h, whole(9, person, 50, NONE, 1));
        h = mix(h, spy(9, person, 3));
        h = mix(h, shots(5, 9, 4, person, 4, 0));
        h = mix(h, shots(5, 9, 4, person, 4, 1));
        return mix(h, plates(7, 20, person));
    }

    private long mixYear(long start, int year) {
        long h = start;
        for (int what = 0; what <= 2; what++) {
            h = mix(h, behind(year, what));
        }
        for (int drawer = 0; drawer < DRAWERS; drawer++) {
            h = mix(h, drawer(year, drawer));
        }
        h = mix(h, feast(year, 2));
        for (int what = 0; what <= 2; what++) {
            h = mix(h, swap(year, what));
        }
        return h;
    }

    private static long mix(long h, long value) {
        return 31 * h + value;
    }

    private int found(int number) {
        finding = number;
        return -10 - number;
    }

    private static int lowestOf(int persons) {
        int person = 0;
        while (person < MOST_PERSONS - 1 && (persons >> person & 1) == 0) {
            person++;
        }
        return person;
    }

    private static boolean isSighting(int year, int person, int solid) {
        return isYear(year) && isWithin(person, 0, MOST_PERSONS - 1) && isWithin(solid, 0, MOST_SOLID);
    }

    private static boolean isTown(int solid, int grows) {
        return isWithin(solid, 1, MOST_TOWN) && isWithin(grows, 0, MOST_GROWTH);
    }

    private static boolean isYear(int year) {
        return isWithin(year, 0, LAST_YEAR);
    }

    private static boolean isSize(int size) {
        return isWithin(size, 1, MOST_SIZE);
    }

    private static boolean isDrawer(int drawer) {
        return isWithin(drawer, 0, DRAWERS - 1);
    }

    private static boolean isSheet(int s) {
        return isWithin(s, 0, SHEETS - 1);
    }

    private static boolean isForm(int form) {
        return isWithin(form, BYTES, INTS);
    }

    private static boolean isWithin(int value, int least, int most) {
        return value >= least && value <= most;
    }

    private static int endOfTown(int solid, int loss, int grows) {
        int left = solid;
        for (int year = 0; year <= LAST_TOWN_YEAR; year++) {
            left -= loss;
            if (left <= 0) {
                return year;
            }
            left = Math.min(left + grows, solid);
        }
        return NONE;
    }

    private static int nextSeed(int seed) {
        return 1103515245 * seed + 12345;
    }

    private static int lotOf(int seed, int m) {
        return m > 0 ? (seed >>> 16) % m : 0;
    }

    /** The text, and the persons that it tells of while it has no fault. */
    private static final class People {
        private final int[] text = new int[MOST_BYTES];
        private final int[] solids = new int[MOST_PERSONS];
        private final int[] twins = new int[MOST_PERSONS];
        private int length;
        private int fault = NONE;
        private int persons;

        int length() {
            return length;
        }

        int faultPlace() {
            return fault;
        }

        int howMany() {
            return persons;
        }

        boolean has(int person) {
            return person >= 0 && person < persons;
        }

        int solidAtFirst(int person) {
            return has(person) ? solids[person] : 0;
        }

        int twinOf(int person) {
            return has(person) ? twins[person] : NONE;
        }

        int allAtFirst() {
            int sum = 0;
            for (int person = 0; person < persons; person++) {
                sum += solids[person];
            }
            return sum;
        }

        int howManyTwins() {
            int sum = 0;
            for (int person = 0; person < persons; person++) {
                sum += twins[person] == NONE ? 0 : 1;
            }
            return sum;
        }

        void append(int b) {
            if (length < MOST_BYTES) {
                text[length] = b;
                length++;
                readText();
            }
        }

        void cutTo(int bytes) {
            if (bytes >= 0 && bytes < length) {
                length = bytes;
                readText();
            }
        }

        private void readText() {
            fault = findFault();
            persons = 0;
            if (fault != NONE) {
                return;
            }
            int told = (length + 1) / 4;
            for (int person = 0; person < told; person++) {
                int at = person * 4;
                int twin = text[at + 2] - 'a';
                solids[person] = (text[at] - '0') * 10 + text[at + 1] - '0';
                twins[person] = twin < 0 || twin >= told || twin == person ? NONE : twin;
            }
            persons = told;
        }

        // Each person has three bytes and one behind it but for the last, so a byte's place tells its part;
        // 31 bytes end with the eighth person, so a ninth never begins.
        private int findFault() {
            for (int at = 0; at < length; at++) {
                if (!mayStand(text[at], at % 4)) {
                    return at;
                }
            }
            return length == 0 || length % 4 == 3 ? NONE : length;
        }

        private static boolean mayStand(int b, int part) {
            if (part < 2) {
                return b >= '0' && b <= '9';
            }
            return part == 2 ? b == '.' || b >= 'a' && b <= 'h' : b == ';';
        }
    }

    /** The years of things numbered as they were told, walked by year and, within one, as told. */
    private static final class Roll {
        private final int[] years;
        private final int[] order;
        int many;

        Roll(int most) {
            int room = Math.max(most, 0);
            years = new int[room];
            order = new int[room];
        }

        int howMany() {
            return many;
        }

        boolean isFull() {
            return many >= years.length;
        }

        int numberAt(int place) {
            return place >= 0 && place < many ? order[place] : 0;
        }

        int yearAt(int place) {
            return place >= 0 && place < many ? years[order[place]] : NONE;
        }

        void add(int year) {
            if (isFull()) {
                return;
            }
            int place = many;
            while (place > 0 && yearAt(place - 1) > year) {
                order[place] = order[place - 1];
                place--;
            }
            years[many] = year;
            order[place] = many;
            many++;
        }

        boolean dropLast() {
            if (many == 0) {
                return false;
            }
            int last = many - 1;
            int kept = 0;
            for (int place = 0; place < many; place++) {
                if (order[place] != last) {
                    order[kept] = order[place];
                    kept++;
                }
            }
            many = last;
            return true;
        }

        void clear() {
            many = 0;
        }
    }

    private static final class Pictures {
        final Roll roll = new Roll(MOST_PICTURES);
        private final int[] persons = new int[MOST_PICTURES];
        private final int[] sizes = new int[MOST_PICTURES];
        private final int[] drawers = new int[MOST_PICTURES];

        int howMany() {
            return roll.howMany();
        }

        boolean add(int year, int person, int size, int drawer) {
            int number = roll.howMany();
            if (number >= MOST_PICTURES) {
                return false;
            }
            persons[number] = person;
            sizes[number] = size;
            drawers[number] = drawer;
            roll.add(year);
            return true;
        }

        int personOn(int picture) {
            return has(picture) ? persons[picture] : NONE;
        }

        int sizeOf(int picture) {
            return has(picture) ? sizes[picture] : 0;
        }

        int drawerOf(int picture) {
            return has(picture) ? drawers[picture] : NONE;
        }

        boolean has(int picture) {
            return picture >= 0 && picture < roll.many && picture < MOST_PICTURES;
        }
    }

    private static final class Burnings {
        final Roll roll = new Roll(MOST_BURNINGS);
        private final int[] burnt = new int[MOST_BURNINGS];

        int howMany() {
            return roll.howMany();
        }

        boolean add(int year, int picture) {
            int number = roll.howMany();
            if (number >= MOST_BURNINGS) {
                return false;
            }
            burnt[number] = picture;
            roll.add(year);
            return true;
        }

        int pictureOf(int burning) {
            return burning >= 0 && burning < roll.many && burning < MOST_BURNINGS ? burnt[burning] : NONE;
        }
    }

    /** How things go from year to year; one picture may have another size than told, or none (never taken). */
    private static final class Course {
        private final People people;
        private final Pictures pictures;
        private final Burnings burnings;
        private final int[] solids = new int[MOST_PERSONS];
        private final int[] ofPerson = new int[MOST_PICTURES];
        private final int[] ofTwin = new int[MOST_PICTURES];
        private int takenBits;
        private int burntBits;
        private int nextPicture;
        private int nextBurning;
        private int alteredPicture = NONE;
        private int alteredSize;

        Course(People people, Pictures pictures, Burnings burnings) {
            this.people = people;
            this.pictures = pictures;
            this.burnings = burnings;
        }

        void begin() {
            beginAltered(NONE, 0);
        }

        void beginAltered(int picture, int size) {
            alteredPicture = picture;
            alteredSize = size;
            for (int person = 0; person < MOST_PERSONS; person++) {
                solids[person] = people.solidAtFirst(person);
            }
            Arrays.fill(ofPerson, 0);
            Arrays.fill(ofTwin, 0);
            takenBits = 0;
            burntBits = 0;
            nextPicture = 0;
            nextBurning = 0;
        }

        void goThrough(int lastYear) {
            begin();
            // Not by pass(), so that calls stay eight deep from digest() on.
            for (int year = 0; year <= lastYear; year++) {
                takeAllOf(year);
                burnAllOf(year);
            }
        }

        void pass(int year) {
            takeAllOf(year);
            burnAllOf(year);
        }

        void takeAllOf(int year) {
            while (nextPicture < pictures.howMany() && pictures.roll.yearAt(nextPicture) == year) {
                takePicture(pictures.roll.numberAt(nextPicture));
                nextPicture++;
            }
        }

        void burnAllOf(int year) {
            while (nextBurning < burnings.howMany() && burnings.roll.yearAt(nextBurning) == year) {
                burnPicture(burnings.pictureOf(burnings.roll.numberAt(nextBurning)));
                nextBurning++;
            }
        }

        /** A picture that has no number, so that nothing can burn it. */
        void takeUncounted(int person, int size) {
            takeFrom(person, size);
            takeFrom(people.twinOf(person), size / 2);
        }

        private void takePicture(int picture) {
            int person = pictures.personOn(picture);
            int size = picture == alteredPicture ? alteredSize : pictures.sizeOf(picture);
            if (size == 0 || !isNumber(picture) || !people.has(person)) {
                return;
            }
            takenBits |= 1 << picture;
            ofPerson[picture] = takeFrom(person, size);
            ofTwin[picture] = takeFrom(people.twinOf(person), size / 2);
        }

        private int takeFrom(int person, int much) {
            if (!people.has(person)) {
                return 0;
            }
            int share = Math.min(much, solids[person]);
            solids[person] -= share;
            return share;
        }

        private void burnPicture(int picture) {
            if (!isThere(picture)) {
                return;
            }
            int person = pictures.personOn(picture);
            burntBits |= 1 << picture;
            giveTo(person, ofPerson[picture]);
            giveTo(people.twinOf(person), ofTwin[picture]);
        }

        private void giveTo(int person, int much) {
            if (people.has(person)) {
                solids[person] += much;
            }
        }

        private static boolean isNumber(int picture) {
            return picture >= 0 && picture < MOST_PICTURES;
        }

        boolean isThere(int picture) {
            return isNumber(picture) && (thereBits() >> picture & 1) == 1;
        }

        int thereBits() {
            return takenBits & ~burntBits;
        }

        int solidOf(int person) {
            return people.has(person) ? solids[person] : NONE;
        }

        int tookOfPerson(int picture) {
            return isNumber(picture) ? ofPerson[picture] : 0;
        }

        int tookOfTwin(int picture) {
            return isNumber(picture) ? ofTwin[picture] : 0;
        }

        int tookOfBoth(int picture) {
            return tookOfPerson(picture) + tookOfTwin(picture);
        }

        /** What burning a picture would give to a person. */
        int giftTo(int person, int picture) {
            int whom = pictures.personOn(picture);
            if (whom == person) {
                return tookOfPerson(picture);
            }
            return people.twinOf(whom) == person ? tookOfTwin(picture) : 0;
        }

        int drawerOf(int picture) {
            return pictures.drawerOf(picture);
        }

        int heldBy(int drawer) {
            int sum = 0;
            for (int picture = 0; picture < MOST_PICTURES; picture++) {
                if (isThere(picture) && pictures.drawerOf(picture) == drawer) {
                    sum += tookOfBoth(picture);
                }
            }
            return sum;
        }

        int allTogether() {
            int sum = 0;
            for (int person = 0; person < people.howMany(); person++) {
                sum += solids[person];
            }
            for (int drawer = 0; drawer < DRAWERS; drawer++) {
                sum += heldBy(drawer);
            }
            return sum;
        }

        int unseenBits(int faint) {
            int bits = 0;
            for (int person = 0; person < people.howMany(); person++) {
                if (solids[person] < faint) {
                    bits |= 1 << person;
                }
            }
            return bits;
        }
    }

    /**
     * Which pictures to burn. A burning's price is one number: how many, what is lost and the bits, in this order
     * from the top; prices add up without running into one another (12 pictures, 13 lost by each at most), so the
     * least sum is the plan that is due.
     */
    private static final class Rescue {
        private static final int LOSS_AT = 12;
        private static final int MANY_AT = 20;
        private static final int OUT_OF_REACH = 1 << 28;

        private final int[] leastPrice = new int[MOST_SOLID + 1];
        private int price;

        boolean plan(Course course, int person, int solid, int spared) {
            int missing = Math.max(solid - course.solidOf(person), 0);
            if (missing > MOST_SOLID) {
                return false;
            }
            Arrays.fill(leastPrice, OUT_OF_REACH);
            leastPrice[0] = 0;
            for (int picture = 0; picture < MOST_PICTURES; picture++) {
                if (course.isThere(picture)) {
                    int loss = course.drawerOf(picture) == spared ? 0 : course.tookOfBoth(picture);
                    offer(course.giftTo(person, picture), (1 << MANY_AT) + (loss << LOSS_AT) + (1 << picture));
                }
            }
            price = leastPrice[missing];
            return price < OUT_OF_REACH;
        }

        // From the top down, so that no picture is burnt twice.
        private void offer(int gift, int cost) {
            if (gift <= 0) {
                return;
            }
            for (int wanted = MOST_SOLID; wanted > 0; wanted--) {
                int rest = leastPrice[Math.max(wanted - gift, 0)];
                leastPrice[wanted] = Math.min(leastPrice[wanted], rest + cost);
            }
        }

        int burntBits() {
            return price & (1 << LOSS_AT) - 1;
        }

        int loss() {
            return price >> LOSS_AT & (1 << MANY_AT - LOSS_AT) - 1;
        }
    }

    /** The drawers' owners and what they would swap. */
    private static final class Collectors {
        private final int[] wants = new int[DRAWERS];
        private final int[] persons = new int[MOST_PICTURES];
        private final int[] owners = new int[MOST_PICTURES];

        Collectors() {
            Arrays.fill(wants, NONE);
        }

        int changeWant(int drawer, int person) {
            if (drawer < 0 || drawer >= DRAWERS) {
                return BAD;
            }
            int was = wants[drawer];
            wants[drawer] = person;
            return was;
        }

        void gather(Pictures pictures, int thereBits) {
            for (int picture = 0; picture < MOST_PICTURES; picture++) {
                boolean isThere = (thereBits >> picture & 1) == 1;
                persons[picture] = pictures.personOn(picture);
                owners[picture] = isThere ? pictures.drawerOf(picture) : NONE;
            }
        }

        /** The least pair, as the lesser number times MOST_PICTURES and the other. */
        int findSwap() {
            for (int one = 0; one < MOST_PICTURES; one++) {
                for (int other = one + 1; other < MOST_PICTURES; other++) {
                    if (isGain(owners[one], persons[one], persons[other])
                            && isGain(owners[other], persons[other], persons[one])) {
                        return one * MOST_PICTURES + other;
                    }
                }
            }
            return NONE;
        }

        // Two pictures of one owner never pass: it cannot want each of them and not the other.
        private boolean isGain(int owner, int given, int gained) {
            return owner >= 0 && owner < DRAWERS && wants[owner] == gained && wants[owner] != given;
        }

        // Each swap brings two pictures more to where they are wanted, so there are fewer swaps than pictures.
        int swapTillRest() {
            for (int done = 0; done < MOST_PICTURES; done++) {
                int pair = findSwap();
                if (pair < 0) {
                    return done;
                }
                exchange(pair / MOST_PICTURES, pair % MOST_PICTURES);
            }
            return MOST_PICTURES;
        }

        private void exchange(int one, int other) {
            if (one < MOST_PICTURES && other < MOST_PICTURES) {
                int owner = owners[one];
                owners[one] = owners[other];
                owners[other] = owner;
            }
        }
    }

    /** What was seen. */
    private static final class Witness {
        private final Roll roll = new Roll(MOST_SEEN);
        private final int[] persons = new int[MOST_SEEN];
        private final int[] solids = new int[MOST_SEEN];

        int howMany() {
            return roll.howMany();
        }

        void clear() {
            roll.clear();
        }

        boolean add(int year, int person, int solid) {
            int number = roll.howMany();
            if (number >= MOST_SEEN) {
                return false;
            }
            persons[number] = person;
            solids[number] = solid;
            roll.add(year);
            return true;
        }

        /** Whether all comes out so if a picture had been of a size (0: had it never been taken). */
        boolean isBorneOut(Course course, int picture, int size) {
            course.beginAltered(picture, size);
            int next = 0;
            for (int year = 0; year <= LAST_YEAR && next < roll.howMany(); year++) {
                course.pass(year);
                while (next < roll.howMany() && roll.yearAt(next) == year) {
                    if (!agrees(course, roll.numberAt(next))) {
                        return false;
                    }
                    next++;
                }
            }
            return true;
        }

        // Nobody is as solid as no one there is, so what was seen of such a person never comes out so.
        private boolean agrees(Course course, int number) {
            return number >= 0 && number < MOST_SEEN && course.solidOf(persons[number]) == solids[number];
        }
    }

    /** Shots by chance, each by c sixteenths: in how many of 16 to the n ways so many are taken. */
    private static final class Chance {
        private static final int BITS_OF_SIXTEEN = 4;

        private final long[] ways = new long[MOST_SHOTS + 1];
        private long above;
        private long below = 1;

        void countWays(int c, int n) {
            Arrays.fill(ways, 0);
            ways[0] = 1;
            for (int shot = 0; shot < n; shot++) {
                for (int taken = MOST_SHOTS; taken > 0; taken--) {
                    ways[taken] = ways[taken] * (SIXTEENTHS - c) + ways[taken - 1] * c;
                }
                ways[0] *= SIXTEENTHS - c;
            }
        }

        void weighUnseen(int solid, int size, int n, int faint) {
            above = 0;
            for (int taken = 0; taken <= MOST_SHOTS; taken++) {
                if (Math.max(solid - taken * size, 0) < faint) {
                    above += ways[taken];
                }
            }
            int twos = BITS_OF_SIXTEEN * n;
            while (twos > 0 && (above & 1) == 0) {
                above >>= 1;
                twos--;
            }
            below = 1L << twos;
        }

        long above() {
            return above;
        }

        long below() {
            return below;
        }
    }

    /** A row of items that stay as narrow as its form, or a lost one. */
    private static final class Sheet {
        private final int[] items = new int[MOST_ITEMS];
        private int form = NONE;
        private int length;

        boolean isLost() {
            return form == NONE;
        }

        int length() {
            return length;
        }

        boolean isLike(Sheet sheet) {
            return form == sheet.form;
        }

        void renew(int newForm, int newLength) {
            Arrays.fill(items, 0);
            form = newForm;
            length = Math.max(0, Math.min(newLength, MOST_ITEMS));
        }

        void becomeLost() {
            form = NONE;
            length = 0;
        }

        int troubleWith(int asForm, int i) {
            if (isLost()) {
                return FOUND_NULL;
            }
            if (asForm != form) {
                return FOUND_CAST;
            }
            return hasRun(i, 1) ? FOUND_NOTHING : FOUND_INDEX;
        }

        boolean hasRun(int i, int n) {
            return i >= 0 && n >= 0 && i <= length - n;
        }

        int item(int i) {
            return hasRun(i, 1) ? items[i] : 0;
        }

        void putItem(int i, int v) {
            if (hasRun(i, 1)) {
                items[i] = narrow(v);
            }
        }

        private int narrow(int v) {
            if (form == BYTES) {
                return (byte) v;
            }
            return form == SHORTS ? (short) v : v;
        }

        void putRun(int j, Sheet from, int i, int n) {
            if (from.hasRun(i, n) && hasRun(j, n)) {
                System.arraycopy(from.items, i, items, j, n);
            }
        }
    }
}
