/** A car whose parts rattle by pace, cold and load, and the search for the one that does. */
public final class RattleAtFifty {
    private static final int NO_SUCH = -1;
    private static final int NO_ROOM = -2;
    private static final int NOT_AS_IT_MUST = -3;
    private static final int NONE = -4;
    private static final int NOTHING_HELD = -11;
    private static final int ANOTHER_KIND = -12;
    private static final int NO_PLACE = -13;
    private static final int SIZE_BELOW = -14;
    private static final int NO_FAILURE = -15;
    private static final long LONG_REFUSALS = -1000000000L;

    private static final int FORM_FAULT = -1000;
    private static final int SENSE_FAULT = -2000;

    private static final int MOST_PARTS = 7;
    private static final int SEATS = 4;
    private static final int KINDS = 8;
    private static final int GREATEST_FIGURE = 9;
    private static final int GREATEST_WEIGHT = 9;
    private static final int PACES = 100;
    private static final int COLDS = 10;
    private static final int LOADS = 6;
    private static final int MOST_RADIO = 40;
    private static final int MOST_MILES = 9999;
    private static final int MILES_OF_A_DRIVE = 99;
    private static final int DRIVES_WEDGED = 2;

    private static final int FREE = 0;
    private static final int HELD = 1;
    private static final int WEDGED = 2;
    private static final int OUT = 3;

    private static final int PACE = 0;
    private static final int COLD = 1;
    private static final int LOAD = 2;
    private static final int RADIO = 3;
    private static final int[] MOST_OF_SETTING = {99, 9, 5, 40};

    private static final int SHELVES = 8;
    private static final int MOST_ELEMENTS = 100;
    private static final int BYTES = 0;
    private static final int SHORTS = 1;
    private static final int INTS = 2;
    private static final int LEAST_BYTE = -128;
    private static final int LEAST_SHORT = -32768;
    private static final int LEAST_INT = 0x80000000;
    private static final int ALL_BUT_SIGN = 0x7fffffff;

    private static final int MOST_SILENT_DRIVES = 60;
    private static final int MOST_TOLD_SEATS = 8;
    private static final int MOST_MENDS = 60;
    private static final int MOST_MECHANIC_DRIVES = 9;
    private static final int MOST_WINTERS = 20;
    private static final int DRIVES_A_WINTER = 10;
    private static final int MOST_DIGITS = 64;
    private static final int MOST_GCD_STEPS = 100;

    private final Car car;
    // The car on which what would happen is tried, so that a question changes nothing.
    private final Car trial;
    private final Car imaged;
    private boolean hasImage;
    private final Part[] kinds;
    private final Shelf[] shelves;
    private final int[] pool;
    private final int[] digits;

    public RattleAtFifty() {
        kinds = new Part[] {
            new Part(), new Loose(), new Tinny(), new Frosty(),
            new Heavy(), new Doubled(), new Dead(), new Deep()
        };
        car = new Car(kinds);
        trial = new Car(kinds);
        imaged = new Car(kinds);
        hasImage = false;
        shelves = new Shelf[SHELVES];
        for (int d = 0; d < SHELVES; d++) {
            shelves[d] = new Shelf();
        }
        pool = new int[MOST_PARTS];
        digits = new int[MOST_DIGITS];
    }

    // ---- the road as told

    public int road(int d) {
        int refusal = rowRefusal(d);
        if (refusal != 0) {
            return refusal;
        }
        Shelf text = shelves[d];
        if (text.sort != BYTES) {
            return ANOTHER_KIND;
        }
        int fault = Road.placeOfFormFault(text);
        if (fault >= 0) {
            return FORM_FAULT - fault;
        }
        trial.becomes(car);
        int statements = Road.follow(text, trial);
        if (statements >= 0) {
            car.becomes(trial);
        }
        return statements;
    }

    public int part(int p, int what) {
        if (!car.has(p)) {
            return NO_SUCH;
        }
        switch (what) {
            case 0: return car.kind[p];
            case 1: return car.figure[p];
            case 2: return car.seat[p];
            case 3: return car.weight[p];
            case 4: return car.state[p];
            case 5: return car.loudNow(p);
            case 6: return car.seconds(p);
            case 7: return car.loosening(p);
            default: return NO_SUCH;
        }
    }

    public int adds(int d, int seat, int weight) {
        if (!isShelf(d) || !isSeat(seat) || !within(weight, 1, GREATEST_WEIGHT)) {
            return NO_SUCH;
        }
        int refusal = shelves[d].refusalAsKind();
        if (refusal != 0) {
            return refusal;
        }
        return car.takeIn(shelves[d].kind, shelves[d].figure, seat, weight);
    }

    public int holds(int p) {
        return car.hold(p);
    }

    public int wedges(int p) {
        return car.wedge(p);
    }

    public int outs(int p) {
        return car.takeOut(p);
    }

    public int screws(int p) {
        return car.screw(p);
    }

    public int set(int what, int v) {
        return car.change(what, v);
    }

    public int drives(int miles) {
        int heardNow = car.heardNow(0);
        int refusal = car.drive(miles);
        return refusal != 0 ? refusal : heardNow;
    }

    // ---- what is heard

    public int heard(int seat, int pace) {
        if (!isSeat(seat) || !isPace(pace)) {
            return NO_SUCH;
        }
        return car.heardAt(seat, pace);
    }

    public int loudest(int seat) {
        return isSeat(seat) ? car.loudestAt(seat) : NO_SUCH;
    }

    public int paces(int seat, int what) {
        if (!isSeat(seat) || !within(what, 0, 2)) {
            return NO_SUCH;
        }
        int many = 0;
        int least = NONE;
        int greatest = NONE;
        for (int pace = 0; pace < PACES; pace++) {
            if (car.heardAt(seat, pace) > 0) {
                many++;
                least = least == NONE ? pace : least;
                greatest = pace;
            }
        }
        return what == 0 ? many : what == 1 ? least : greatest;
    }

    public int silentFrom(int seat, int pace) {
        if (!isSeat(seat) || !isPace(pace)) {
            return NO_SUCH;
        }
        for (int at = pace; at < PACES; at++) {
            if (car.heardAt(seat, at) == 0) {
                return at;
            }
        }
        return NONE;
    }

    public int holdAll(int what) {
        if (!isEither(what)) {
            return NO_SUCH;
        }
        int set = car.fewestToHold();
        return what == 0 ? set : car.secondsOf(set);
    }

    public int radio(int seat) {
        if (!isSeat(seat)) {
            return NO_SUCH;
        }
        int sound = car.soundOfAllBut(0, seat, car.setting[PACE]);
        return sound <= MOST_RADIO ? sound : NONE;
    }

    public int wanted(int what) {
        if (!isEither(what)) {
            return NO_SUCH;
        }
        int setting = what == 0 ? LOAD : COLD;
        int most = MOST_OF_SETTING[setting];
        trial.becomes(car);
        for (int i = 0; i <= most; i++) {
            int v = what == 0 ? i : most - i;
            trial.change(setting, v);
            if (trial.heardNow(0) == 0) {
                return v;
            }
        }
        return NONE;
    }

    public int bestSeat() {
        int best = 0;
        for (int seat = 1; seat < SEATS; seat++) {
            if (car.heardNow(seat) > car.heardNow(best)) {
                best = seat;
            }
        }
        return best;
    }

    // ---- which it is

    public int which(int d, int what) {
        int refusal = isEither(what) ? pairsRefusal(d) : NO_SUCH;
        if (refusal != 0) {
            return refusal;
        }
        int suspects = suspectsBy(shelves[d]);
        return what == 0 ? suspects : Integer.bitCount(suspects);
    }

    public int two(int d, int what) {
        int refusal = isEither(what) ? pairsRefusal(d) : NO_SUCH;
        if (refusal != 0) {
            return refusal;
        }
        int alone = suspectsBy(shelves[d]);
        int many = 0;
        int first = NONE;
        for (int p = 0; p < car.parts; p++) {
            for (int q = p + 1; q < car.parts; q++) {
                int both = (1 << p) | (1 << q);
                if ((both & alone) == 0 && car.doesJust(shelves[d], both)) {
                    many++;
                    first = first == NONE ? 10 * p + q : first;
                }
            }
        }
        return what == 0 ? many : first;
    }

    public int tryNext(int d) {
        int refusal = pairsRefusal(d);
        if (refusal != 0) {
            return refusal;
        }
        int suspects = suspectsBy(shelves[d]);
        if (Integer.bitCount(suspects) < 2) {
            return NONE;
        }
        int all = car.weightOf(suspects);
        int best = 0;
        int most = -1;
        for (int pace = 0; pace < PACES; pace++) {
            int rattling = car.weightOf(suspects & car.rattlingAt(pace));
            int lesser = Math.min(rattling, all - rattling);
            if (lesser > most) {
                most = lesser;
                best = pace;
            }
        }
        return best;
    }

    public long halves(int set, int part) {
        if (!isSetOfParts(set) || !isEither(part)) {
            return ofLongs(NO_SUCH);
        }
        return inLeastTerms(drivesByHalves(set), car.weightOf(set), part);
    }

    public long oneByOne(int set, int part) {
        if (!isSetOfParts(set) || !isEither(part)) {
            return ofLongs(NO_SUCH);
        }
        return inLeastTerms(drivesOneByOne(set), car.weightOf(set), part);
    }

    public int worse(int set) {
        if (!isSetOfParts(set)) {
            return NO_SUCH;
        }
        return drivesOneByOne(set) - drivesByHalves(set);
    }

    public int gone(int s, int t) {
        if (!within(s, 1, 9) || !within(t, 2, 50)) {
            return NO_SUCH;
        }
        // Behind n silent DRIVES the odds are 1 in t or less just if (t - 1) (10 - s)^n <= 10^n:
        // that grows beyond a long, so it is kept digit by digit.
        startDigits(t - 1);
        for (int n = 0; n <= MOST_SILENT_DRIVES; n++) {
            if (digitsAtMostPowerOfTen(n)) {
                return n;
            }
            multiplyDigits(10 - s);
        }
        return NONE;
    }

    public long ear(int d, int r, int seat, int part) {
        boolean known = within(r, 0, 9) && isSeat(seat) && isEither(part);
        int refusal = known ? toldSeatsRefusal(d) : NO_SUCH;
        if (refusal != 0) {
            return ofLongs(refusal);
        }
        long all = 0;
        for (int each = 0; each < SEATS; each++) {
            all += likelihood(shelves[d], r, each);
        }
        return inLeastTerms(likelihood(shelves[d], r, seat), all, part);
    }

    public int likeliest(int d, int r) {
        int refusal = within(r, 0, 9) ? toldSeatsRefusal(d) : NO_SUCH;
        if (refusal != 0) {
            return refusal;
        }
        int best = 0;
        for (int seat = 1; seat < SEATS; seat++) {
            if (likelihood(shelves[d], r, seat) > likelihood(shelves[d], r, best)) {
                best = seat;
            }
        }
        return best;
    }

    private int suspectsBy(Shelf told) {
        int suspects = 0;
        for (int p = 0; p < car.parts; p++) {
            if (car.doesJust(told, 1 << p)) {
                suspects |= 1 << p;
            }
        }
        return suspects;
    }

    private int pairsRefusal(int d) {
        int refusal = rowRefusal(d);
        if (refusal != 0) {
            return refusal;
        }
        return shelves[d].isOfPairs() ? 0 : NO_PLACE;
    }

    private int toldSeatsRefusal(int d) {
        int refusal = rowRefusal(d);
        if (refusal != 0) {
            return refusal;
        }
        Shelf told = shelves[d];
        if (told.size > MOST_TOLD_SEATS) {
            return NO_PLACE;
        }
        for (int i = 0; i < told.size; i++) {
            if (!isSeat(told.elements[i])) {
                return NO_PLACE;
            }
        }
        return 0;
    }

    /** How likely the told SEATS are if it is this SEAT, times 30 for each of them. */
    private static long likelihood(Shelf told, int r, int seat) {
        long product = 1;
        for (int i = 0; i < told.size; i++) {
            product *= told.elements[i] == seat ? 3 * r : 10 - r;
        }
        return product;
    }

    /** The fewest DRIVES in the mean, times all WEIGHTS of the set: each joining of two is one DRIVE. */
    private int drivesByHalves(int set) {
        int sum = 0;
        for (int left = fillPool(set); left > 1; left--) {
            moveLeastToEnd(left);
            moveLeastToEnd(left - 1);
            pool[left - 2] += pool[left - 1];
            sum += pool[left - 2];
        }
        return sum;
    }

    /** The DRIVES one by one in the mean, times all WEIGHTS: each DRIVE counts for all still in doubt. */
    private int drivesOneByOne(int set) {
        int inDoubt = car.weightOf(set);
        int sum = 0;
        for (int left = fillPool(set); left > 1; left--) {
            sum += inDoubt;
            moveGreatestToEnd(left);
            inDoubt -= pool[left - 1];
        }
        return sum;
    }

    private int fillPool(int set) {
        int many = 0;
        for (int p = 0; p < car.parts; p++) {
            if ((set >> p & 1) == 1) {
                pool[many] = car.weight[p];
                many++;
            }
        }
        return many;
    }

    private void moveLeastToEnd(int many) {
        for (int i = 1; i < many && i < pool.length; i++) {
            if (pool[i - 1] < pool[i]) {
                swapInPool(i);
            }
        }
    }

    private void moveGreatestToEnd(int many) {
        for (int i = 1; i < many && i < pool.length; i++) {
            if (pool[i - 1] > pool[i]) {
                swapInPool(i);
            }
        }
    }

    private void swapInPool(int i) {
        if (within(i, 1, pool.length - 1)) {
            int before = pool[i - 1];
            pool[i - 1] = pool[i];
            pool[i] = before;
        }
    }

    private void startDigits(int value) {
        int left = value;
        for (int i = 0; i < digits.length; i++) {
            digits[i] = left % 10;
            left /= 10;
        }
    }

    private void multiplyDigits(int factor) {
        int carry = 0;
        for (int i = 0; i < digits.length; i++) {
            int product = digits[i] * factor + carry;
            digits[i] = product % 10;
            carry = product / 10;
        }
    }

    private boolean digitsAtMostPowerOfTen(int n) {
        boolean lowerIsZero = true;
        for (int i = 0; i < digits.length; i++) {
            if (i < n) {
                lowerIsZero = lowerIsZero && digits[i] == 0;
            } else if (i == n) {
                if (digits[i] > 1 || digits[i] == 1 && !lowerIsZero) {
                    return false;
                }
            } else if (digits[i] != 0) {
                return false;
            }
        }
        return true;
    }

    private static long inLeastTerms(long above, long below, int part) {
        long divisor = greatestCommonDivisor(above, below);
        if (below == 0 || divisor == 0) {
            return part == 0 ? 0 : 1;
        }
        return part == 0 ? above / divisor : below / divisor;
    }

    private static long greatestCommonDivisor(long a, long b) {
        long greater = a;
        long lesser = b;
        for (int step = 0; step < MOST_GCD_STEPS && lesser != 0; step++) {
            long rest = greater % lesser;
            greater = lesser;
            lesser = rest;
        }
        return greater;
    }

    // ---- mends, a mechanic

    public int mends(int what) {
        if (!isEither(what)) {
            return NO_SUCH;
        }
        trial.becomes(car);
        int times = 0;
        while (times < MOST_MENDS && trial.loudestAt(0) != NONE) {
            trial.screw(trial.loudestAt(0));
            times++;
        }
        if (what == 1) {
            return trial.allFigures();
        }
        return trial.loudestAt(0) == NONE ? times : NONE;
    }

    public int mechanic(int s, int h, int cost, int what) {
        if (!within(s, 0, 9) || !within(h, 1, 9) || !within(cost, 0, 99) || !isEither(what)) {
            return NO_SUCH;
        }
        long all = 1;
        long missed = 1;
        for (int n = 0; n <= MOST_MECHANIC_DRIVES; n++) {
            if (10 * (all - missed) >= h * all) {
                return what == 0 ? n : n * cost;
            }
            all *= 10;
            missed *= 10 - s;
        }
        return NONE;
    }

    public int worth(int v) {
        if (!within(v, 0, 9999)) {
            return NO_SUCH;
        }
        int each = car.heardNow(0);
        if (each <= 0) {
            return NONE;
        }
        return Math.min(v / each, MILES_OF_A_DRIVE);
    }

    // ---- wedges, told drives

    public int quiet(int d, int what) {
        int refusal = isEither(what) ? statesRefusal(d) : NO_SUCH;
        if (refusal != 0) {
            return refusal;
        }
        trial.becomes(car);
        trial.takeStates(shelves[d]);
        int many = 0;
        int least = NONE;
        for (int pace = 0; pace < PACES; pace++) {
            if (trial.heardAt(0, pace) == 0) {
                many++;
                least = least == NONE ? pace : least;
            }
        }
        return what == 0 ? many : least;
    }

    private int statesRefusal(int d) {
        int refusal = rowRefusal(d);
        if (refusal != 0) {
            return refusal;
        }
        Shelf told = shelves[d];
        if (told.size > car.parts) {
            return NO_PLACE;
        }
        for (int i = 0; i < told.size; i++) {
            if (!told.skips(i) && !within(told.elements[i], FREE, OUT)) {
                return NO_PLACE;
            }
        }
        return 0;
    }

    public int forged(int d) {
        int refusal = rowRefusal(d);
        if (refusal != 0) {
            return refusal;
        }
        Shelf told = shelves[d];
        trial.becomes(car);
        int fitting = (1 << LOADS) - 1;
        for (int pace = 0; pace < told.size; pace++) {
            for (int load = 0; load < LOADS && !told.skips(pace); load++) {
                trial.change(LOAD, load);
                if (trial.heardAt(0, pace) != told.elements[pace]) {
                    fitting &= ~(1 << load);
                }
            }
            if (fitting == 0) {
                return pace;
            }
        }
        return NONE;
    }

    public int judge(int d) {
        int refusal = rowRefusal(d);
        if (refusal != 0) {
            return refusal;
        }
        Shelf told = shelves[d];
        trial.becomes(car);
        for (int i = 0; i < told.size; i++) {
            if (!told.skips(i) && told.elements[i] != trial.heardNow(0)) {
                return i;
            }
            trial.endDrive();
        }
        return NONE;
    }

    public int winters(int n, int z, int what) {
        if (!within(n, 1, MOST_WINTERS) || !isEither(what)) {
            return NO_SUCH;
        }
        int seed = z;
        int rattling = 0;
        int all = 0;
        for (int drive = 0; drive < n * DRIVES_A_WINTER; drive++) {
            if (drive % DRIVES_A_WINTER == 0) {
                trial.becomes(car);
            }
            seed = nextSeed(seed);
            trial.change(PACE, drawn(seed) % PACES);
            seed = nextSeed(seed);
            trial.change(COLD, drawn(seed) % COLDS);
            int heardThen = trial.heardNow(0);
            rattling += heardThen > 0 ? 1 : 0;
            all += heardThen;
            trial.endDrive();
        }
        return what == 0 ? rattling : all;
    }

    private static int nextSeed(int seed) {
        return seed * 1103515245 + 12345;
    }

    private static int drawn(int seed) {
        return (seed & ALL_BUT_SIGN) >> 16;
    }

    // ---- the image, what is told

    public int image() {
        imaged.becomes(car);
        hasImage = true;
        return car.miles;
    }

    public int restore() {
        if (!hasImage) {
            return NOT_AS_IT_MUST;
        }
        car.becomes(imaged);
        return car.miles;
    }

    public int count(int what) {
        switch (what) {
            case 0: return car.parts;
            case 1: return car.miles;
            case 2: return car.setting[PACE];
            case 3: return car.setting[COLD];
            case 4: return car.setting[LOAD];
            case 5: return car.setting[RADIO];
            case 6: return car.allFigures();
            case 7: return car.freeOnes();
            default: return NO_SUCH;
        }
    }

    // ---- shelves

    public int keep(int d, int what, int k, int figure) {
        if (!isShelf(d) || !isEither(what)) {
            return NO_SUCH;
        }
        if (what == 0) {
            shelves[d].clear();
            return 0;
        }
        if (!within(k, 0, KINDS - 1) || !within(figure, 0, GREATEST_FIGURE)) {
            return NO_SUCH;
        }
        shelves[d].takeKind(k, figure);
        return 0;
    }

    public int row(int d, int sort, int n) {
        if (!isShelf(d) || !within(sort, BYTES, INTS) || n > MOST_ELEMENTS) {
            return NO_SUCH;
        }
        if (n < 0) {
            return SIZE_BELOW;
        }
        shelves[d].takeRow(sort, n);
        return 0;
    }

    public int put(int d, int i, int v) {
        int refusal = rowRefusal(d);
        if (refusal != 0) {
            return refusal;
        }
        if (!shelves[d].hasPlace(i)) {
            return NO_PLACE;
        }
        shelves[d].store(i, v);
        return 0;
    }

    public long element(int d, int i) throws IllegalArgumentException, IllegalStateException {
        if (!isShelf(d)) {
            throw new IllegalArgumentException("no such shelf");
        }
        if (shelves[d].refusalAsRow() != 0 || !shelves[d].hasPlace(i)) {
            throw new IllegalStateException("no row, or no such place in it");
        }
        return shelves[d].elements[i];
    }

    public int copy(int d, int i, int e, int j, int n) {
        if (!isShelf(d) || !isShelf(e)) {
            return NO_SUCH;
        }
        Shelf from = shelves[d];
        Shelf to = shelves[e];
        if (from.isEmpty() || to.isEmpty()) {
            return NOTHING_HELD;
        }
        if (from.refusalAsRow() != 0 || to.refusalAsRow() != 0 || from.sort != to.sort) {
            return ANOTHER_KIND;
        }
        if (!from.hasStretch(i, n) || !to.hasStretch(j, n)) {
            return NO_PLACE;
        }
        System.arraycopy(from.elements, i, to.elements, j, n);
        return n;
    }

    public int cost(int d) {
        int refusal = kindRefusal(d);
        if (refusal != 0) {
            return refusal;
        }
        return kinds[shelves[d].kind].price(shelves[d].figure);
    }

    public int toss(int d) {
        int refusal = kindRefusal(d);
        if (refusal != 0) {
            return refusal;
        }
        Part kind = kinds[shelves[d].kind];
        int figure = shelves[d].figure;
        try {
            kind.fail(figure);
        } catch (IllegalArgumentException doubled) {
            return 200 + kind.price(figure);
        } catch (IllegalStateException tinny) {
            return 100 + figure;
        } catch (UnsupportedOperationException plain) {
            return figure;
        }
        return NO_FAILURE;
    }

    private int rowRefusal(int d) {
        return isShelf(d) ? shelves[d].refusalAsRow() : NO_SUCH;
    }

    private int kindRefusal(int d) {
        return isShelf(d) ? shelves[d].refusalAsKind() : NO_SUCH;
    }

    private static boolean within(int v, int least, int greatest) {
        return v >= least && v <= greatest;
    }

    private static boolean isEither(int what) {
        return within(what, 0, 1);
    }

    private static boolean isShelf(int d) {
        return within(d, 0, SHELVES - 1);
    }

    private static boolean isSeat(int seat) {
        return within(seat, 0, SEATS - 1);
    }

    private static boolean isPace(int pace) {
        return within(pace, 0, PACES - 1);
    }

    private boolean isSetOfParts(int set) {
        return set >= 1 && set < 1 << car.parts;
    }

    private static long ofLongs(int refusal) {
        return LONG_REFUSALS + refusal;
    }

    /** The KIND PART, and what all KINDS under it share. */
    private static class Part {
        int loudness(int figure, int pace, int cold, int load) {
            return pace >= 48 && pace <= 53 ? figure : 0;
        }

        int secondsToHold(int figure) {
            return 10;
        }

        int loosensBy() {
            return 1;
        }

        int price(int figure) {
            return 3;
        }

        /** Throws the FAILURE, if there is one: each sort of FAILURE has an exception of its own. */
        void fail(int figure) {
            if (figure > 0) {
                throw new UnsupportedOperationException();
            }
        }
    }

    private static class Loose extends Part {
        int loudness(int figure, int pace, int cold, int load) {
            return pace >= 30 ? figure : 0;
        }

        int secondsToHold(int figure) {
            return super.secondsToHold(figure) - 4;
        }

        int loosensBy() {
            return super.loosensBy() + 2;
        }

        int price(int figure) {
            return super.price(figure) - 1;
        }
    }

    private static class Tinny extends Part {
        int loudness(int figure, int pace, int cold, int load) {
            return 2 * super.loudness(figure, pace, cold, load);
        }

        int secondsToHold(int figure) {
            return super.secondsToHold(figure) + figure;
        }

        int price(int figure) {
            return super.price(figure) + figure;
        }

        void fail(int figure) {
            if (figure > 0) {
                throw new IllegalStateException();
            }
        }
    }

    private static final class Frosty extends Loose {
        int loudness(int figure, int pace, int cold, int load) {
            return cold >= 5 ? super.loudness(figure, pace, cold, load) : 0;
        }

        int secondsToHold(int figure) {
            return 2 * super.secondsToHold(figure);
        }

        int price(int figure) {
            return 2 * super.price(figure);
        }
    }

    private static class Heavy extends Part {
        int loudness(int figure, int pace, int cold, int load) {
            return Math.max(0, super.loudness(figure, pace, cold, load) - load);
        }

        int secondsToHold(int figure) {
            return super.secondsToHold(figure) + 5;
        }

        int price(int figure) {
            return super.price(figure) + 6;
        }
    }

    private static final class Doubled extends Tinny {
        int loudness(int figure, int pace, int cold, int load) {
            int tinny = super.loudness(figure, pace, cold, load);
            return tinny > 0 && pace % 2 == 0 ? tinny + 3 : tinny;
        }

        int secondsToHold(int figure) {
            return super.secondsToHold(figure) + 2;
        }

        int price(int figure) {
            return super.price(figure) + 2;
        }

        void fail(int figure) {
            if (figure > 0) {
                throw new IllegalArgumentException();
            }
        }
    }

    private static final class Dead extends Part {
        int loudness(int figure, int pace, int cold, int load) {
            return 0;
        }

        int loosensBy() {
            return 0;
        }

        int price(int figure) {
            return super.price(figure) + 1;
        }

        void fail(int figure) {
            // A DEAD one has no FAILURE, whatever its FIGURE.
        }
    }

    private static final class Deep extends Heavy {
        int loudness(int figure, int pace, int cold, int load) {
            return 2 * super.loudness(figure, pace, cold, load);
        }

        int price(int figure) {
            return super.price(figure) + figure;
        }
    }

    /** The PARTS with their STATES, the settings and the MILES: all that THE IMAGE holds. */
    private static final class Car {
        private final Part[] kinds;
        private final int[] kind;
        private final int[] figure;
        private final int[] seat;
        private final int[] weight;
        private final int[] state;
        private final int[] drivesWedged;
        private final int[] setting;
        private int parts;
        private int miles;

        Car(Part[] kinds) {
            this.kinds = kinds;
            kind = new int[MOST_PARTS];
            figure = new int[MOST_PARTS];
            seat = new int[MOST_PARTS];
            weight = new int[MOST_PARTS];
            state = new int[MOST_PARTS];
            drivesWedged = new int[MOST_PARTS];
            setting = new int[] {50, 5, 0, 0};
            parts = 0;
            miles = 0;
        }

        void becomes(Car other) {
            System.arraycopy(other.kind, 0, kind, 0, MOST_PARTS);
            System.arraycopy(other.figure, 0, figure, 0, MOST_PARTS);
            System.arraycopy(other.seat, 0, seat, 0, MOST_PARTS);
            System.arraycopy(other.weight, 0, weight, 0, MOST_PARTS);
            System.arraycopy(other.state, 0, state, 0, MOST_PARTS);
            System.arraycopy(other.drivesWedged, 0, drivesWedged, 0, MOST_PARTS);
            System.arraycopy(other.setting, 0, setting, 0, setting.length);
            parts = other.parts;
            miles = other.miles;
        }

        boolean has(int p) {
            return p >= 0 && p < parts;
        }

        int takeIn(int newKind, int newFigure, int newSeat, int newWeight) {
            if (!within(newKind, 0, KINDS - 1) || !within(newFigure, 0, GREATEST_FIGURE)
                    || !isSeat(newSeat) || !within(newWeight, 1, GREATEST_WEIGHT)) {
                return NO_SUCH;
            }
            if (parts >= MOST_PARTS) {
                return NO_ROOM;
            }
            kind[parts] = newKind;
            figure[parts] = newFigure;
            seat[parts] = newSeat;
            weight[parts] = newWeight;
            state[parts] = FREE;
            drivesWedged[parts] = 0;
            parts++;
            return parts - 1;
        }

        int hold(int p) {
            if (!has(p)) {
                return NO_SUCH;
            }
            if (state[p] == OUT) {
                return NOT_AS_IT_MUST;
            }
            state[p] = HELD;
            return kindOf(p).secondsToHold(figure[p]);
        }

        int wedge(int p) {
            if (!has(p)) {
                return NO_SUCH;
            }
            if (state[p] == OUT) {
                return NOT_AS_IT_MUST;
            }
            int was = state[p];
            state[p] = WEDGED;
            drivesWedged[p] = 0;
            return was;
        }

        int takeOut(int p) {
            if (!has(p)) {
                return NO_SUCH;
            }
            state[p] = state[p] == OUT ? FREE : OUT;
            return state[p];
        }

        int screw(int p) {
            if (!has(p)) {
                return NO_SUCH;
            }
            figure[p] = 0;
            int next = p + 1 < parts ? p + 1 : 0;
            if (next != p) {
                figure[next] = Math.min(GREATEST_FIGURE, figure[next] + kindOf(next).loosensBy());
            }
            return figure[next];
        }

        int change(int what, int v) {
            if (!within(what, PACE, RADIO) || !within(v, 0, MOST_OF_SETTING[what])) {
                return NO_SUCH;
            }
            int was = setting[what];
            setting[what] = v;
            return was;
        }

        /** A DRIVE, but for what is HEARD on it: 0, or the REFUSAL. */
        int drive(int more) {
            if (!within(more, 1, MILES_OF_A_DRIVE)) {
                return NO_SUCH;
            }
            if (miles + more > MOST_MILES) {
                return NOT_AS_IT_MUST;
            }
            miles += more;
            endDrive();
            return 0;
        }

        void endDrive() {
            for (int p = 0; p < parts; p++) {
                if (state[p] == HELD) {
                    state[p] = FREE;
                } else if (state[p] == WEDGED) {
                    drivesWedged[p]++;
                    state[p] = drivesWedged[p] >= DRIVES_WEDGED ? FREE : WEDGED;
                }
            }
        }

        void takeStates(Shelf told) {
            for (int p = 0; p < parts && p < told.size; p++) {
                if (!told.skips(p)) {
                    state[p] = told.elements[p];
                }
            }
        }

        private Part kindOf(int p) {
            return kinds[has(p) ? kind[p] : 0];
        }

        int loudNow(int p) {
            return has(p) ? kindOf(p).loudness(figure[p], setting[PACE], setting[COLD], setting[LOAD]) : 0;
        }

        int seconds(int p) {
            return has(p) ? kindOf(p).secondsToHold(figure[p]) : 0;
        }

        int loosening(int p) {
            return kindOf(p).loosensBy();
        }

        /** By how much a PART SOUNDS at a SEAT, RADIO aside. */
        int soundThere(int p, int there, int pace) {
            if (!has(p) || state[p] != FREE) {
                return 0;
            }
            int loud = kindOf(p).loudness(figure[p], pace, setting[COLD], setting[LOAD]);
            return Math.max(0, loud - Math.abs(there - seat[p]));
        }

        int soundOfAllBut(int set, int there, int pace) {
            int sound = 0;
            for (int p = 0; p < parts; p++) {
                if ((set >> p & 1) == 0) {
                    sound += soundThere(p, there, pace);
                }
            }
            return sound;
        }

        int heardAt(int there, int pace) {
            return Math.max(0, soundOfAllBut(0, there, pace) - setting[RADIO]);
        }

        int heardNow(int there) {
            return Math.max(0, soundOfAllBut(0, there, setting[PACE]) - setting[RADIO]);
        }

        int loudestAt(int there) {
            int best = NONE;
            int most = 0;
            for (int p = 0; p < parts; p++) {
                int sound = soundThere(p, there, setting[PACE]);
                if (sound > most) {
                    most = sound;
                    best = p;
                }
            }
            return best;
        }

        int fewestToHold() {
            int free = freeOnes();
            // With all FREE ones HELD it is silent, so that there is always a set.
            int best = free;
            for (int set = 0; set < 1 << parts; set++) {
                if ((set & ~free) == 0 && Integer.bitCount(set) < Integer.bitCount(best)
                        && soundOfAllBut(set, 0, setting[PACE]) <= setting[RADIO]) {
                    best = set;
                }
            }
            return best;
        }

        int secondsOf(int set) {
            int sum = 0;
            for (int p = 0; p < parts; p++) {
                sum += (set >> p & 1) == 1 ? seconds(p) : 0;
            }
            return sum;
        }

        int weightOf(int set) {
            int sum = 0;
            for (int p = 0; p < parts; p++) {
                sum += (set >> p & 1) == 1 ? weight[p] : 0;
            }
            return sum;
        }

        int allFigures() {
            int sum = 0;
            for (int p = 0; p < parts; p++) {
                sum += figure[p];
            }
            return sum;
        }

        int freeOnes() {
            int set = 0;
            for (int p = 0; p < parts; p++) {
                set |= state[p] == FREE ? 1 << p : 0;
            }
            return set;
        }

        /** The PARTS that would rattle at a PACE if they were FREE. */
        int rattlingAt(int pace) {
            int set = 0;
            for (int p = 0; p < parts; p++) {
                int loud = kindOf(p).loudness(figure[p], pace, setting[COLD], setting[LOAD]);
                set |= loud > 0 ? 1 << p : 0;
            }
            return set;
        }

        /** Whether a set of PARTS, all others silent, would rattle just as the told pairs say. */
        boolean doesJust(Shelf told, int set) {
            for (int i = 0; i + 1 < told.size; i += 2) {
                boolean rattles = (set & rattlingAt(told.elements[i])) != 0;
                if (rattles != (told.elements[i + 1] == 1)) {
                    return false;
                }
            }
            return true;
        }
    }

    /** What a SHELF holds: nothing, a PART's KIND or a ROW; one array serves all its ROWS. */
    private static final class Shelf {
        private static final int EMPTY = 0;
        private static final int WITH_KIND = 1;
        private static final int WITH_ROW = 2;

        private int content;
        private int kind;
        private int figure;
        private int sort;
        private int size;
        private final int[] elements;

        Shelf() {
            content = EMPTY;
            kind = 0;
            figure = 0;
            sort = BYTES;
            size = 0;
            elements = new int[MOST_ELEMENTS];
        }

        void clear() {
            content = EMPTY;
            size = 0;
        }

        void takeKind(int newKind, int newFigure) {
            content = WITH_KIND;
            kind = newKind;
            figure = newFigure;
            size = 0;
        }

        void takeRow(int newSort, int newSize) {
            content = WITH_ROW;
            sort = newSort;
            size = newSize;
            for (int i = 0; i < elements.length; i++) {
                elements[i] = 0;
            }
        }

        boolean isEmpty() {
            return content == EMPTY;
        }

        int refusalAsKind() {
            return content == EMPTY ? NOTHING_HELD : content == WITH_KIND ? 0 : ANOTHER_KIND;
        }

        int refusalAsRow() {
            return content == EMPTY ? NOTHING_HELD : content == WITH_ROW ? 0 : ANOTHER_KIND;
        }

        boolean hasPlace(int i) {
            return i >= 0 && i < size;
        }

        boolean hasStretch(int from, int many) {
            return from >= 0 && many >= 0 && from <= size && many <= size - from;
        }

        void store(int i, int v) {
            if (hasPlace(i)) {
                elements[i] = sort == BYTES ? (byte) v : sort == SHORTS ? (short) v : v;
            }
        }

        /** Whether an element is the least number of the SORT, which tells nothing of its place. */
        boolean skips(int i) {
            int least = sort == BYTES ? LEAST_BYTE : sort == SHORTS ? LEAST_SHORT : LEAST_INT;
            return hasPlace(i) && elements[i] == least;
        }

        boolean isOfPairs() {
            if (size % 2 != 0) {
                return false;
            }
            for (int i = 0; i + 1 < size; i += 2) {
                if (!isPace(elements[i]) || !isEither(elements[i + 1])) {
                    return false;
                }
            }
            return true;
        }

        boolean hasDigit(int i) {
            return hasPlace(i) && within(elements[i], '0', '9');
        }

        /** The number that so many digits from a place on make. */
        int number(int from, int many) {
            int value = 0;
            for (int i = from; i < from + many && hasDigit(i); i++) {
                value = 10 * value + elements[i] - '0';
            }
            return value;
        }
    }

    /** Reads THE TEXT of a ROAD. */
    private static final class Road {
        private static final int NO_FAULT = -1;

        /** How many digits stand behind a letter; 0, if no STATEMENT begins so. */
        private static int digitsBehind(int letter) {
            switch (letter) {
                case 'p':
                    return 4;
                case 's':
                case 'r':
                case 'd':
                    return 2;
                case 'c':
                case 'l':
                case 'h':
                case 'w':
                case 'o':
                case 't':
                    return 1;
                default:
                    return 0;
            }
        }

        static int placeOfFormFault(Shelf text) {
            boolean inStatement = false;
            int digitsToCome = 0;
            for (int i = 0; i < text.size; i++) {
                if (!inStatement) {
                    digitsToCome = digitsBehind(text.elements[i]);
                    inStatement = digitsToCome > 0;
                    if (!inStatement) {
                        return i;
                    }
                } else if (digitsToCome > 0) {
                    if (!text.hasDigit(i)) {
                        return i;
                    }
                    digitsToCome--;
                } else if (text.elements[i] == ';') {
                    inStatement = false;
                } else {
                    return i;
                }
            }
            return inStatement || text.size == 0 ? text.size : NO_FAULT;
        }

        /** Does all STATEMENTS of a text without fault of form: how many, or the FAULT. */
        static int follow(Shelf text, Car car) {
            int statements = 0;
            for (int at = 0; at < text.size; at += digitsBehind(text.elements[at]) + 2) {
                if (!can(text, at, car)) {
                    return SENSE_FAULT - at;
                }
                statements++;
            }
            return statements;
        }

        /** Whether the STATEMENT at a place can be done: if so, it is. */
        private static boolean can(Shelf text, int at, Car car) {
            int number = text.number(at + 1, digitsBehind(text.elements[at]));
            switch (text.elements[at]) {
                case 'p':
                    return car.takeIn(number / 1000, number / 100 % 10, number / 10 % 10, number % 10) >= 0;
                case 's':
                    return car.change(PACE, number) >= 0;
                case 'c':
                    return car.change(COLD, number) >= 0;
                case 'l':
                    return car.change(LOAD, number) >= 0;
                case 'r':
                    return car.change(RADIO, number) >= 0;
                case 'h':
                    return car.hold(number) >= 0;
                case 'w':
                    return car.wedge(number) >= 0;
                case 'o':
                    return car.takeOut(number) >= 0;
                case 't':
                    return car.screw(number) >= 0;
                case 'd':
                    return car.drive(number) >= 0;
                default:
                    return false;
            }
        }
    }
}
