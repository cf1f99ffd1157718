import java.util.Arrays;

/** Sleep by the fathom: streets, tax laws, rounds and catches told as texts, and what is due by them. */
public final class FathomNight {
    public static final int NONE = -1;

    private static final int NO_SUCH = -2;

    private static final int UNITS = 36;
    private static final int LAST_UNIT = 35;
    private static final int WATCHES = 9;
    private static final int WATCH_UNITS = 4;

    private static final int TAPE_BYTES = 600;
    private static final int FED_BYTES = 20;
    private static final int MOST_HOUSES = 8;
    private static final int BEDS = 4;
    private static final int MOST_SLEEPERS = 9;
    private static final int MOST_WINE = 8;
    private static final int MOST_ACTS = 40;
    private static final int MOST_ROWS = 8;
    private static final int CELLS = MOST_HOUSES * UNITS;

    private static final int STREET = 0;
    private static final int LAW = 1;
    private static final int ROUND = 2;
    private static final int CATCH = 3;
    private static final int SORTS = 4;
    private static final int MOST_OF_A_SORT = 2;
    private static final int IMAGES = 3;

    private static final int PLAIN = 0;
    private static final int MOTHER = 1;
    private static final int CHILD = 2;
    private static final int RICH = 3;

    private static final int GO = 0;
    private static final int SOUND = 1;
    private static final int WAIT = 2;

    private static final int POPPY_DEEPER = 9;
    private static final int WINE_DEEPER = 3;
    private static final int WINE_LASTS = 5;
    private static final int WINE_AHEAD_OF_RISING = 8;
    private static final int LATE_UNITS = 2;

    private static final int SEVEN_SLEEPERS = 5;
    private static final int SEVEN_LIES = 9;
    private static final int SEVEN_UNITS = 28;
    private static final int STANDIN_RICH = 4;
    private static final int WENT_GOES = 7;
    private static final int WEEKS = 99;
    private static final int NIGHTS_OF_WEEK = 6;
    private static final int DRAWN_NIGHTS = 30;
    private static final int COINS = 9999;
    /** Above every sum of UNITS or of coins that can come about. */
    private static final int FAR = 100000000;

    private final Told told = new Told();
    private final Told[] images = new Told[IMAGES];
    private final Scribe scribe = new Scribe(told.tape);
    private final Law noLaw = new Law();
    private final Trail trail = new Trail();
    private final Trail still = new Trail();
    private final Night night = new Night(new Street(), noLaw, still);
    private final Plans plans = new Plans(night);
    private final Ways ways = new Ways();

    public FathomNight() {
    }

    public int feed(int a, int b, int c, int d, int e) {
        if (told.length + FED_BYTES > TAPE_BYTES) {
            return NONE;
        }
        told.put(a);
        told.put(b);
        told.put(c);
        told.put(d);
        told.put(e);
        return told.length;
    }

    public int end(int n) {
        if (n < 0 || n > told.length) {
            return NONE;
        }
        told.length = n;
        return n;
    }

    public int text(int sort, int at) {
        // The tape is taken also where no text is read.
        int length = told.length;
        told.length = 0;
        told.fault = 0;
        told.place = NONE;
        int number = told.placeFor(sort, at);
        if (number == NONE) {
            return NO_SUCH;
        }
        scribe.take(sort, length);
        told.fault = scribe.fault;
        told.place = scribe.place;
        if (scribe.fault != 0) {
            return NONE;
        }
        keepText(sort, number);
        return number;
    }

    private void keepText(int sort, int number) {
        if (sort == STREET) {
            told.streets[number].copyFrom(scribe.street);
        } else if (sort == LAW) {
            told.laws[number].copyFrom(scribe.law);
        } else if (sort == ROUND) {
            told.rounds[number].copyFrom(scribe.round);
        } else {
            told.catches[number].copyFrom(scribe.caught);
        }
        told.counts[sort] = Math.max(told.counts[sort], number + 1);
    }

    public int fault(int what) {
        if (what == 0) {
            return told.fault;
        }
        return what == 1 ? told.place : NONE;
    }

    public int street(int street, int what) {
        if (!told.has(STREET, street)) {
            return NONE;
        }
        Street s = told.streets[street];
        if (what >= 10 && what < 10 + MOST_HOUSES * MOST_HOUSES) {
            int h = (what - 10) / MOST_HOUSES;
            int k = (what - 10) % MOST_HOUSES;
            return s.hasHouse(h) && s.hasHouse(k) ? s.doorUnits(h, k) : NONE;
        }
        switch (what) {
            case 0:
                return s.houses;
            case 1:
                return s.cats;
            case 2:
                return s.sleepers;
            case 3:
                return s.wines;
            default:
                return NONE;
        }
    }

    public int sleeper(int street, int k, int what) {
        if (!isSleeper(street, k)) {
            return NO_SUCH;
        }
        Street s = told.streets[street];
        switch (what) {
            case 0:
                return s.manner[k];
            case 1:
                return s.house[k];
            case 2:
                return s.bed[k];
            case 3:
                return s.lies[k];
            case 4:
                return s.rises[k];
            case 5:
                return s.sink[k];
            case 6:
                return s.deep[k];
            case 7:
                return s.poppy[k];
            case 8:
                return s.stands[k];
            case 9:
                return s.upAt(k);
            default:
                return NO_SUCH;
        }
    }

    public int wine(int street, int k, int what) {
        if (!told.has(STREET, street) || k < 0 || k >= told.streets[street].wines) {
            return NONE;
        }
        if (what == 0) {
            return told.streets[street].drinker[k];
        }
        return what == 1 ? told.streets[street].drunkAt[k] : NONE;
    }

    public int depth(int street, int k, int unit) {
        if (!isSleeper(street, k) || !isUnit(unit)) {
            return NO_SUCH;
        }
        return told.streets[street].depthUnwoken(k, unit);
    }

    public int law(int law, int what) {
        if (!told.has(LAW, law)) {
            return NONE;
        }
        Law l = told.laws[law];
        if (what >= 10 && what < 10 + WATCHES) {
            return l.rates[what - 10];
        }
        switch (what) {
            case 0:
                return l.mark;
            case 1:
                return l.cap;
            case 2:
                return l.fine;
            case 3:
                return l.free;
            case 4:
                return l.shared ? 1 : 0;
            default:
                return NONE;
        }
    }

    public int act(int round, int k, int what) {
        if (!told.has(ROUND, round)) {
            return NO_SUCH;
        }
        Round r = told.rounds[round];
        if (k == NONE) {
            return wholeRound(r, what);
        }
        if (k < 0 || k >= r.acts || what < 0 || what > 1) {
            return NO_SUCH;
        }
        return what == 0 ? r.kind[k] : r.number[k];
    }

    private static int wholeRound(Round r, int what) {
        switch (what) {
            case 0:
                return r.acts;
            case 1:
                return r.house;
            case 2:
                return r.unit;
            default:
                return NO_SUCH;
        }
    }

    public int stop(int street, int round) {
        if (!told.has(STREET, street) || !told.has(ROUND, round)) {
            return NONE;
        }
        trail.walk(told.streets[street], told.rounds[round], MOST_ACTS);
        return trail.stop;
    }

    public int state(int street, int law, int round, int n, int what) {
        if (stop(street, round) == NONE || !told.has(LAW, law) || n < 0 || n > trail.stop) {
            return NO_SUCH;
        }
        trail.walk(told.streets[street], told.rounds[round], n);
        night.open(told.streets[street], told.laws[law], trail);
        if (what >= 10) {
            return stateOfSleeper(what / 10, what % 10);
        }
        switch (what) {
            case 0:
                return trail.house;
            case 1:
                return trail.unit;
            case 2:
                return night.readings(0, UNITS);
            case 3:
                return night.wokenTimes();
            case 4:
                return night.dueOfAll();
            default:
                return NO_SUCH;
        }
    }

    private int stateOfSleeper(int question, int k) {
        if (!night.street.hasSleeper(k)) {
            return NO_SUCH;
        }
        switch (question) {
            case 1:
                return night.dues[k];
            case 2:
                return night.wokenLast(k);
            case 3:
                return night.latestReading(k);
            default:
                return NO_SUCH;
        }
    }

    public int hours(int street, int round, int watch) {
        if (stop(street, round) == NONE || watch < 0 || watch >= WATCHES) {
            return NONE;
        }
        night.open(told.streets[street], noLaw, trail);
        return night.readings(watch * WATCH_UNITS, (watch + 1) * WATCH_UNITS);
    }

    public int seven(int street, int law, int round, int what) {
        if (!isOpened(street, law, round) || night.street.sleepers > SEVEN_SLEEPERS) {
            return NONE;
        }
        int k = what - 10;
        if (what != 0 && !night.street.hasSleeper(k)) {
            return NONE;
        }
        plans.findSeven();
        return what == 0 ? plans.best : plans.bestRow[k];
    }

    public int refuge(int street, int law, int round, int k, boolean unit) {
        if (!isSleeper(street, k) || !isOpened(street, law, round)) {
            return NONE;
        }
        plans.findAlarms(k, false);
        return unit ? plans.bestAt : plans.best;
    }

    public int sold(int street, int law, int what) {
        if (!isOpenedStill(street, law)) {
            return NONE;
        }
        ways.findSold(night);
        if (what == 0) {
            return ways.soldSum;
        }
        if (what == 1) {
            return ways.soldHouses;
        }
        int i = what - 10;
        return i >= 0 && i < ways.soldHouses ? ways.soldRow[i] : NONE;
    }

    public int quick(int street, int from, int to) {
        if (!isHouse(street, from) || !isHouse(street, to)) {
            return NONE;
        }
        return ways.fewestUnits(told.streets[street], from, to);
    }

    public int told(int caught, int k) {
        if (!told.has(CATCH, caught)) {
            return NO_SUCH;
        }
        Catch c = told.catches[caught];
        if (k == NONE) {
            return c.rows;
        }
        return k >= 0 && k < c.rows ? c.row[k] : NO_SUCH;
    }

    public long went(int street, int law, int caught, int n, int house) {
        if (house != NONE && !isHouse(street, house)) {
            return NONE;
        }
        if (!isWentFound(street, law, caught, n)) {
            return NONE;
        }
        return house == NONE ? ways.wentInAll() : ways.wentTo(house);
    }

    public int soonest(int street, int law, int caught, int n) {
        return isWentFound(street, law, caught, n) ? ways.wentSoonest() : NONE;
    }

    private boolean isWentFound(int street, int law, int caught, int n) {
        if (!told.has(CATCH, caught) || n < 0 || n > WENT_GOES || !isOpenedStill(street, law)) {
            return false;
        }
        Catch c = told.catches[caught];
        if (!c.fits(night.street)) {
            return false;
        }
        ways.findWent(night, c, n);
        return true;
    }

    public int cats(int street, boolean bits) {
        if (!told.has(STREET, street)) {
            return NONE;
        }
        int least = Ways.leastCats(told.streets[street]);
        return bits ? least : Integer.bitCount(least);
    }

    public int standins(int street, int law, int round, boolean due) {
        if (!isOpened(street, law, round) || night.street.ofManner(RICH) > STANDIN_RICH) {
            return NONE;
        }
        plans.findStandins();
        return due ? plans.best : plans.found;
    }

    public int arrears(int street, int law, int round, int k, int n) {
        if (n < 0 || n > WEEKS || !isSleeper(street, k) || !isOpened(street, law, round)) {
            return NONE;
        }
        int due = night.dues[k] * NIGHTS_OF_WEEK;
        int asleep = night.street.upAt(k) - night.street.lies[k];
        int owed = 0;
        for (int week = 0; week < n; week++) {
            owed = Math.max(0, owed + due - asleep);
        }
        return owed;
    }

    public int odds(int street, int law, int k, boolean under) {
        if (!isSleeper(street, k) || !isOpenedStill(street, law)) {
            return NONE;
        }
        int sum = night.chargesAlone(k);
        int asleep = night.street.upAt(k) - night.street.lies[k];
        return leastTerms(sum, asleep, under);
    }

    public int drawn(int street, int law, int round, int seed, int n, int what) {
        if (n < 0 || n > DRAWN_NIGHTS || !isOpened(street, law, round)) {
            return NONE;
        }
        int k = what - 10;
        if (what != 0 && what != 1 && !night.street.hasSleeper(k)) {
            return NONE;
        }
        plans.draw(seed, n);
        if (what == 0) {
            return plans.drawnInAll();
        }
        return what == 1 ? plans.found : plans.drawnDue[k];
    }

    public int loud(int street, int unit, boolean deep) {
        if (!told.has(STREET, street) || !isUnit(unit)) {
            return NONE;
        }
        Street s = told.streets[street];
        int who = NONE;
        int deepest = NONE;
        for (int k = 0; k < s.sleepers; k++) {
            int d = s.depthUnwoken(k, unit);
            if (d > deepest) {
                deepest = d;
                who = k;
            }
        }
        return deep ? deepest : who;
    }

    public int calm(int street, int law) {
        if (!isOpenedStill(street, law)) {
            return NONE;
        }
        int units = 0;
        for (int u = 0; u < UNITS; u++) {
            if (night.aboveMark(u) == 0) {
                units++;
            }
        }
        return units;
    }

    public int paid(int street, int law, int round, int n, boolean bits) {
        if (n < 0 || n > COINS || !isOpened(street, law, round)) {
            return NONE;
        }
        int most = plans.mostPaid(n);
        return bits ? most : Integer.bitCount(most);
    }

    public int twice(int street, int law, int round, int k, boolean units) {
        if (!isSleeper(street, k) || !isOpened(street, law, round)) {
            return NONE;
        }
        plans.findAlarms(k, true);
        return units ? plans.bestAt : plans.best;
    }

    public int share(int street, int law, int round, int house, boolean under) {
        if (!isHouse(street, house) || !isOpened(street, law, round)) {
            return NONE;
        }
        return leastTerms(night.dueOfHouse(house), night.dueOfAll(), under);
    }

    public int trip(int street, int from) {
        return isHouse(street, from) ? ways.fewestToAll(told.streets[street], from) : NONE;
    }

    public int count(int sort) {
        return sort >= 0 && sort < SORTS ? told.counts[sort] : NO_SUCH;
    }

    public boolean image(int k) {
        if (k < 0 || k >= IMAGES) {
            return false;
        }
        if (images[k] == null) {
            images[k] = new Told();
        }
        images[k].copyFrom(told);
        return true;
    }

    public boolean again(int k) {
        if (k < 0 || k >= IMAGES || images[k] == null) {
            return false;
        }
        told.copyFrom(images[k]);
        return true;
    }

    private static boolean isUnit(int unit) {
        return unit >= 0 && unit <= LAST_UNIT;
    }

    private boolean isSleeper(int street, int k) {
        return told.has(STREET, street) && told.streets[street].hasSleeper(k);
    }

    private boolean isHouse(int street, int house) {
        return told.has(STREET, street) && told.streets[street].hasHouse(house);
    }

    /** Lays out the night of a ROUND up to STOP, if all three are there. */
    private boolean isOpened(int street, int law, int round) {
        if (!told.has(LAW, law) || stop(street, round) == NONE) {
            return false;
        }
        night.open(told.streets[street], told.laws[law], trail);
        return true;
    }

    /** Lays out a night in which nobody is woken, if both are there. */
    private boolean isOpenedStill(int street, int law) {
        if (!told.has(STREET, street) || !told.has(LAW, law)) {
            return false;
        }
        night.open(told.streets[street], told.laws[law], still);
        return true;
    }

    /** The upper or lower number of a fraction in least terms, 0 by 1 if nothing is above. */
    private static int leastTerms(int above, int below, boolean under) {
        if (above <= 0 || below <= 0) {
            return under ? 1 : 0;
        }
        int common = commonDivisor(above, below);
        if (common <= 0) {
            return under ? below : above;
        }
        return under ? below / common : above / common;
    }

    private static int commonDivisor(int a, int b) {
        int greater = a;
        int rest = b;
        for (int i = 0; i < 100 && rest > 0; i++) {
            int next = greater % rest;
            greater = rest;
            rest = next;
        }
        return greater;
    }

    /** All that is told, the tape and the FAULT too: what an image keeps. */
    private static final class Told {
        final byte[] tape = new byte[TAPE_BYTES];
        int length = 0;
        int fault = 0;
        int place = NONE;
        final int[] counts = new int[SORTS];
        final Street[] streets = new Street[MOST_OF_A_SORT];
        final Law[] laws = new Law[MOST_OF_A_SORT];
        final Round[] rounds = new Round[MOST_OF_A_SORT];
        final Catch[] catches = new Catch[MOST_OF_A_SORT];

        Told() {
            for (int i = 0; i < MOST_OF_A_SORT; i++) {
                streets[i] = new Street();
                laws[i] = new Law();
                rounds[i] = new Round();
                catches[i] = new Catch();
            }
        }

        void copyFrom(Told other) {
            System.arraycopy(other.tape, 0, tape, 0, TAPE_BYTES);
            length = other.length;
            fault = other.fault;
            place = other.place;
            System.arraycopy(other.counts, 0, counts, 0, SORTS);
            for (int i = 0; i < MOST_OF_A_SORT; i++) {
                streets[i].copyFrom(other.streets[i]);
                laws[i].copyFrom(other.laws[i]);
                rounds[i].copyFrom(other.rounds[i]);
                catches[i].copyFrom(other.catches[i]);
            }
        }

        /** Puts the four bytes of a number behind the tape, the highest first. */
        void put(int number) {
            for (int shift = 24; shift >= 0 && length < TAPE_BYTES; shift -= 8) {
                tape[length] = (byte) (number >> shift);
                length++;
            }
        }

        boolean has(int sort, int at) {
            return sort >= 0 && sort < SORTS && at >= 0 && at < counts[sort];
        }

        /** The number that a text told so would have, NONE if it can't be told. */
        int placeFor(int sort, int at) {
            if (sort < 0 || sort >= SORTS) {
                return NONE;
            }
            if (at == NONE) {
                return counts[sort] < MOST_OF_A_SORT ? counts[sort] : NONE;
            }
            return has(sort, at) ? at : NONE;
        }
    }

    private static final class Street {
        int houses;
        int cats;
        final int[] doors = new int[MOST_HOUSES * MOST_HOUSES];
        int sleepers;
        final int[] manner = new int[MOST_SLEEPERS];
        final int[] house = new int[MOST_SLEEPERS];
        final int[] bed = new int[MOST_SLEEPERS];
        final int[] lies = new int[MOST_SLEEPERS];
        final int[] rises = new int[MOST_SLEEPERS];
        final int[] sink = new int[MOST_SLEEPERS];
        final int[] deep = new int[MOST_SLEEPERS];
        final int[] poppy = new int[MOST_SLEEPERS];
        /** For whom each one stands in. */
        final int[] stands = new int[MOST_SLEEPERS];
        int wines;
        /** Room for one WINE of every SLEEPER, as drawn nights may have more than can be told. */
        final int[] drinker = new int[MOST_SLEEPERS];
        final int[] drunkAt = new int[MOST_SLEEPERS];

        Street() {
            clear();
        }

        void clear() {
            houses = 4;
            cats = 0;
            sleepers = 0;
            wines = 0;
            Arrays.fill(doors, 0);
            Arrays.fill(poppy, NONE);
            Arrays.fill(stands, NONE);
        }

        void copyFrom(Street other) {
            houses = other.houses;
            cats = other.cats;
            sleepers = other.sleepers;
            wines = other.wines;
            System.arraycopy(other.doors, 0, doors, 0, doors.length);
            System.arraycopy(other.manner, 0, manner, 0, MOST_SLEEPERS);
            System.arraycopy(other.house, 0, house, 0, MOST_SLEEPERS);
            System.arraycopy(other.bed, 0, bed, 0, MOST_SLEEPERS);
            System.arraycopy(other.lies, 0, lies, 0, MOST_SLEEPERS);
            System.arraycopy(other.rises, 0, rises, 0, MOST_SLEEPERS);
            System.arraycopy(other.sink, 0, sink, 0, MOST_SLEEPERS);
            System.arraycopy(other.deep, 0, deep, 0, MOST_SLEEPERS);
            System.arraycopy(other.poppy, 0, poppy, 0, MOST_SLEEPERS);
            System.arraycopy(other.stands, 0, stands, 0, MOST_SLEEPERS);
            System.arraycopy(other.drinker, 0, drinker, 0, MOST_SLEEPERS);
            System.arraycopy(other.drunkAt, 0, drunkAt, 0, MOST_SLEEPERS);
        }

        boolean hasHouse(int h) {
            return h >= 0 && h < houses;
        }

        boolean hasSleeper(int k) {
            return k >= 0 && k < sleepers;
        }

        void setDoor(int h, int k, int units) {
            doors[h * MOST_HOUSES + k] = units;
            doors[k * MOST_HOUSES + h] = units;
        }

        /** UNITS of a DOOR, 0 without one; both HOUSES are 0 .. 7. */
        int doorUnits(int h, int k) {
            return doors[h * MOST_HOUSES + k];
        }

        boolean hasCat(int h) {
            return (cats >> h & 1) != 0;
        }

        void addSleeper(int ofManner, int[] numbers) {
            if (sleepers >= MOST_SLEEPERS || numbers.length < 6) {
                return;
            }
            manner[sleepers] = ofManner;
            house[sleepers] = numbers[0];
            bed[sleepers] = numbers[1];
            lies[sleepers] = numbers[2];
            rises[sleepers] = numbers[3];
            sink[sleepers] = numbers[4];
            deep[sleepers] = numbers[5];
            sleepers++;
        }

        void addWine(int k, int unit) {
            if (wines < drinker.length) {
                drinker[wines] = k;
                drunkAt[wines] = unit;
                wines++;
            }
        }

        int ofManner(int wanted) {
            int many = 0;
            for (int k = 0; k < sleepers; k++) {
                if (manner[k] == wanted) {
                    many++;
                }
            }
            return many;
        }

        /** The least who stands in for a RICH one, NONE if nobody does. */
        int standinOf(int k) {
            for (int j = 0; j < sleepers; j++) {
                if (stands[j] == k && manner[k] == RICH) {
                    return j;
                }
            }
            return NONE;
        }

        int winesBetween(int k, int first, int last) {
            int many = 0;
            for (int i = 0; i < wines; i++) {
                if (drinker[i] == k && drunkAt[i] >= first && drunkAt[i] <= last) {
                    many++;
                }
            }
            return many;
        }

        /** The UNIT at which he gets up, late by WINE. */
        int upAt(int k) {
            int told = rises[k];
            boolean late = winesBetween(k, told - WINE_AHEAD_OF_RISING, told - 1) > 0;
            return late ? Math.min(UNITS, told + LATE_UNITS) : told;
        }

        boolean hasPoppy(int k, int unit) {
            return poppy[k] != NONE && poppy[k] <= unit;
        }

        /** DEPTH of one who is ASLEEP, and lay down or was woken last at a UNIT. */
        int depthSince(int k, int unit, int since) {
            if (unit <= since) {
                return 0;
            }
            int most = hasPoppy(k, unit) ? deep[k] + POPPY_DEEPER : deep[k];
            int depth = Math.min(most, sink[k] * (unit - since));
            depth += WINE_DEEPER * winesBetween(k, unit - WINE_LASTS, unit);
            return manner[k] == MOTHER ? Math.max(0, depth - 1) : depth;
        }

        /** DEPTH if nobody is woken, NONE if he is awake. */
        int depthUnwoken(int k, int unit) {
            boolean asleep = unit >= lies[k] && unit < upAt(k);
            return asleep ? depthSince(k, unit, lies[k]) : NONE;
        }
    }

    private static final class Law {
        int mark;
        int cap;
        int fine;
        int free;
        boolean shared;
        final int[] rates = new int[WATCHES];

        Law() {
            clear();
        }

        void clear() {
            mark = 0;
            cap = 999;
            fine = 0;
            free = 0;
            shared = false;
            Arrays.fill(rates, 1);
        }

        void copyFrom(Law other) {
            mark = other.mark;
            cap = other.cap;
            fine = other.fine;
            free = other.free;
            shared = other.shared;
            System.arraycopy(other.rates, 0, rates, 0, WATCHES);
        }

        int chargeOf(int reading, int unit, int house, boolean poppy) {
            if ((free >> house & 1) != 0) {
                return 0;
            }
            int charge = Math.max(0, reading - mark) * rates[unit / WATCH_UNITS];
            return poppy ? charge + fine : charge;
        }
    }

    private static final class Round {
        int house;
        int unit;
        int acts;
        final int[] kind = new int[MOST_ACTS];
        final int[] number = new int[MOST_ACTS];

        void clear() {
            house = 0;
            unit = 0;
            acts = 0;
        }

        void copyFrom(Round other) {
            house = other.house;
            unit = other.unit;
            acts = other.acts;
            System.arraycopy(other.kind, 0, kind, 0, MOST_ACTS);
            System.arraycopy(other.number, 0, number, 0, MOST_ACTS);
        }

        void addAct(int ofKind, int withNumber) {
            if (acts < MOST_ACTS) {
                kind[acts] = ofKind;
                number[acts] = withNumber;
                acts++;
            }
        }
    }

    private static final class Catch {
        /** What is added to a SLEEPER's number in the row of one who was caught. */
        static final int CAUGHT = 10;

        int rows;
        final int[] row = new int[MOST_ROWS];

        void clear() {
            rows = 0;
        }

        void copyFrom(Catch other) {
            rows = other.rows;
            System.arraycopy(other.row, 0, row, 0, MOST_ROWS);
        }

        void addRow(int who, boolean wasCaught) {
            if (rows < MOST_ROWS) {
                row[rows] = wasCaught ? CAUGHT + who : who;
                rows++;
            }
        }

        boolean fits(Street street) {
            for (int i = 0; i < rows; i++) {
                if (!street.hasSleeper(row[i] % CAUGHT)) {
                    return false;
                }
            }
            return true;
        }

        /** Bits of all who were told caught, or of all who were told quiet. */
        int bitsOf(boolean wanted) {
            int bits = 0;
            for (int i = 0; i < rows; i++) {
                if (row[i] >= CAUGHT == wanted) {
                    bits |= 1 << row[i] % CAUGHT;
                }
            }
            return bits;
        }
    }

    /** Reads tokens, one at a time, off the tape. */
    private static final class Reader {
        static final int END = 0;
        static final int WORD = 1;
        static final int NUMBER = 2;
        static final int SEMICOLON = 3;
        static final int WRONG = 4;
        static final int MOST_DIGITS = 3;

        final byte[] tape;
        int length = 0;
        int at = 0;
        int kind = END;
        int start = 0;
        int number = 0;

        Reader(byte[] tape) {
            this.tape = tape;
        }

        void open(int bytes) {
            length = Math.min(bytes, tape.length);
            at = 0;
            next();
        }

        void next() {
            while (at < length && (tape[at] == 10 || tape[at] == 32)) {
                at++;
            }
            start = at;
            if (at >= length) {
                kind = END;
            } else if (isLetter(tape[at])) {
                readWord();
            } else if (isDigit(tape[at])) {
                readNumber();
            } else {
                kind = tape[at] == ';' ? SEMICOLON : WRONG;
                at++;
            }
        }

        private static boolean isLetter(int sign) {
            return sign >= 'a' && sign <= 'z';
        }

        private static boolean isDigit(int sign) {
            return sign >= '0' && sign <= '9';
        }

        private void readWord() {
            while (at < length && isLetter(tape[at])) {
                at++;
            }
            kind = WORD;
        }

        private void readNumber() {
            number = 0;
            while (at < length && isDigit(tape[at])) {
                if (at - start < MOST_DIGITS) {
                    number = number * 10 + (tape[at] - '0');
                }
                at++;
            }
            kind = at - start <= MOST_DIGITS ? NUMBER : WRONG;
        }

        /** Which word of a list, with one blank between two, the token is; NONE if it is none of them. */
        int wordIn(String words) {
            int index = 0;
            int p = start;
            boolean same = true;
            for (int i = 0; i <= words.length(); i++) {
                if (i == words.length() || words.charAt(i) == ' ') {
                    if (same && p == at) {
                        return index;
                    }
                    index++;
                    p = start;
                    same = true;
                } else {
                    same = same && p < at && p < tape.length && tape[p] == words.charAt(i);
                    p++;
                }
            }
            return NONE;
        }
    }

    /** Takes a text as a STREET, LAW, ROUND or CATCH of its own, and finds its FAULT. */
    private static final class Scribe {
        static final String STREET_WORDS = "houses door cat plain mother child rich wine poppy stands";
        static final String LAW_WORDS = "mark cap fine free rate shared";
        static final String ROUND_WORDS = "begin go sound wait";
        static final String CATCH_WORDS = "caught quiet";

        /** The lines, by their numbers in the rows below. */
        static final int HOUSES_LINE = 0;
        static final int DOOR_LINE = 1;
        static final int CAT_LINE = 2;
        static final int PLAIN_LINE = 3;
        static final int RICH_LINE = 6;
        static final int WINE_LINE = 7;
        static final int POPPY_LINE = 8;
        static final int STANDS_LINE = 9;
        static final int MARK_LINE = 10;
        static final int CAP_LINE = 11;
        static final int FINE_LINE = 12;
        static final int FREE_LINE = 13;
        static final int RATE_LINE = 14;
        static final int SHARED_LINE = 15;
        static final int BEGIN_LINE = 16;
        static final int GO_LINE = 17;
        static final int SOUND_LINE = 18;
        static final int WAIT_LINE = 19;
        static final int CAUGHT_LINE = 20;
        static final int QUIET_LINE = 21;
        static final int LINES = 22;

        /** Of a sort's first line. */
        static final int[] FIRST_LINE = {0, 10, 16, 20};
        /** How many NUMBERS a line has, and where in LOW and HIGH its first one stands. */
        static final int[] NUMBERS = {1, 3, 1, 6, 6, 6, 6, 2, 2, 2, 1, 1, 1, 1, 2, 0, 2, 1, 0, 1, 1, 1};
        static final int[] BOUNDS_AT = {0, 1, 4, 5, 5, 5, 5, 11, 11, 13, 15, 16, 17, 18, 19, 21, 21, 23, 24, 24, 25, 25};
        static final int[] LOW = {1, 0, 0, 1, 0, 0, 0, 0, 1, 1, 0, 0, 0, 0, 0, 0, 1, 0, 0, 0, 0, 0, 0, 0, 1, 0};
        static final int[] HIGH = {8, 7, 7, 9, 7, 7, 3, 35, 36, 9, 60, 8, 35, 8, 8, 60, 999, 99, 7, 8, 9, 7, 35, 7, 35, 8};
        static final int MOST_NUMBERS = 6;
        static final int LIES_NUMBER = 2;
        static final int RISES_NUMBER = 3;

        final Reader reader;
        final int[] numbers = new int[MOST_NUMBERS];
        final Street street = new Street();
        final Law law = new Law();
        final Round round = new Round();
        final Catch caught = new Catch();
        int fault = 0;
        int place = NONE;
        /** Bits of what was told of, be it struck by later lines or not. */
        int housesToldOf = 0;
        int sleepersToldOf = 0;

        Scribe(byte[] tape) {
            reader = new Reader(tape);
        }

        void take(int sort, int length) {
            clear();
            reader.open(length);
            boolean goesOn = true;
            for (int i = 0; i <= TAPE_BYTES && goesOn && reader.kind != Reader.END; i++) {
                goesOn = takeLine(sort);
            }
            if (!goesOn) {
                fault = 1;
                place = reader.start;
            } else if (sort == STREET) {
                closeStreet(length);
            }
        }

        private void clear() {
            street.clear();
            law.clear();
            round.clear();
            caught.clear();
            fault = 0;
            place = NONE;
            housesToldOf = 0;
            sleepersToldOf = 0;
        }

        /** False if no text goes on with the token that the reader is at. */
        private boolean takeLine(int sort) {
            int line = lineHere(sort);
            if (line < 0 || line >= LINES) {
                return false;
            }
            if (isFull(line)) {
                note(3, reader.start);
            }
            for (int i = 0; i < NUMBERS[line] && i < MOST_NUMBERS; i++) {
                reader.next();
                if (reader.kind != Reader.NUMBER) {
                    return false;
                }
                numbers[i] = reader.number;
                if (!canBe(line, i)) {
                    note(2, reader.start);
                }
            }
            reader.next();
            if (reader.kind != Reader.SEMICOLON) {
                return false;
            }
            if (fault == 0) {
                tellLine(line);
            }
            reader.next();
            return true;
        }

        private int lineHere(int sort) {
            if (reader.kind != Reader.WORD || sort < 0 || sort >= SORTS) {
                return NONE;
            }
            int word = reader.wordIn(wordsOf(sort));
            return word == NONE ? NONE : FIRST_LINE[sort] + word;
        }

        private static String wordsOf(int sort) {
            switch (sort) {
                case STREET:
                    return STREET_WORDS;
                case LAW:
                    return LAW_WORDS;
                case ROUND:
                    return ROUND_WORDS;
                default:
                    return CATCH_WORDS;
            }
        }

        /** The first one by place stays, as lines are taken in their order. */
        private void note(int which, int where) {
            if (fault == 0) {
                fault = which;
                place = where;
            }
        }

        private boolean isFull(int line) {
            switch (line) {
                case WINE_LINE:
                    return street.wines >= MOST_WINE;
                case GO_LINE:
                case SOUND_LINE:
                case WAIT_LINE:
                    return round.acts >= MOST_ACTS;
                case CAUGHT_LINE:
                case QUIET_LINE:
                    return caught.rows >= MOST_ROWS;
                default:
                    return isSleeperLine(line) && street.sleepers >= MOST_SLEEPERS;
            }
        }

        private static boolean isSleeperLine(int line) {
            return line >= PLAIN_LINE && line <= RICH_LINE;
        }

        private boolean canBe(int line, int i) {
            int bound = BOUNDS_AT[line] + i;
            if (bound >= LOW.length || bound >= HIGH.length) {
                return false;
            }
            if (numbers[i] < LOW[bound] || numbers[i] > HIGH[bound]) {
                return false;
            }
            if (i == 1 && (line == DOOR_LINE || line == STANDS_LINE)) {
                return numbers[1] != numbers[0];
            }
            return !isSleeperLine(line) || i != RISES_NUMBER || numbers[RISES_NUMBER] > numbers[LIES_NUMBER];
        }

        private void tellLine(int line) {
            if (line < MARK_LINE) {
                tellStreet(line);
            } else if (line < BEGIN_LINE) {
                tellLaw(line);
            } else if (line < CAUGHT_LINE) {
                tellRound(line);
            } else {
                caught.addRow(numbers[0], line == CAUGHT_LINE);
            }
        }

        private void tellStreet(int line) {
            switch (line) {
                case HOUSES_LINE:
                    street.houses = numbers[0];
                    break;
                case DOOR_LINE:
                    housesToldOf |= 1 << numbers[0] | 1 << numbers[1];
                    street.setDoor(numbers[0], numbers[1], numbers[2]);
                    break;
                case CAT_LINE:
                    housesToldOf |= 1 << numbers[0];
                    street.cats |= 1 << numbers[0];
                    break;
                case WINE_LINE:
                    sleepersToldOf |= 1 << numbers[0];
                    street.addWine(numbers[0], numbers[1]);
                    break;
                case POPPY_LINE:
                    sleepersToldOf |= 1 << numbers[0];
                    street.poppy[numbers[0]] = numbers[1];
                    break;
                case STANDS_LINE:
                    sleepersToldOf |= 1 << numbers[0] | 1 << numbers[1];
                    street.stands[numbers[0]] = numbers[1];
                    break;
                default:
                    housesToldOf |= 1 << numbers[0];
                    street.addSleeper(line - PLAIN_LINE, numbers);
                    break;
            }
        }

        private void tellLaw(int line) {
            switch (line) {
                case MARK_LINE:
                    law.mark = numbers[0];
                    break;
                case CAP_LINE:
                    law.cap = numbers[0];
                    break;
                case FINE_LINE:
                    law.fine = numbers[0];
                    break;
                case FREE_LINE:
                    law.free |= 1 << numbers[0];
                    break;
                case RATE_LINE:
                    law.rates[numbers[0]] = numbers[1];
                    break;
                default:
                    law.shared = true;
                    break;
            }
        }

        private void tellRound(int line) {
            switch (line) {
                case BEGIN_LINE:
                    round.house = numbers[0];
                    round.unit = numbers[1];
                    break;
                case GO_LINE:
                    round.addAct(GO, numbers[0]);
                    break;
                case SOUND_LINE:
                    round.addAct(SOUND, NONE);
                    break;
                default:
                    round.addAct(WAIT, numbers[0]);
                    break;
            }
        }

        /** The FAULTS that show only when all of a STREET has been told. */
        private void closeStreet(int length) {
            if (housesToldOf >> street.houses != 0 || sleepersToldOf >> street.sleepers != 0) {
                note(4, length);
            }
            for (int k = 0; k < street.sleepers; k++) {
                int whom = street.stands[k];
                if (street.hasSleeper(whom)
                        && (street.house[whom] != street.house[k] || street.manner[whom] != RICH)) {
                    note(5, length);
                }
            }
        }
    }

    /**
     * Where a ROUND goes on a STREET. Every go and wait takes a UNIT at least, so that he comes to
     * one HOUSE at most, and sounds in one alone, at each UNIT.
     */
    private static final class Trail {
        int house = 0;
        int unit = 0;
        int stop = 0;
        /** By UNITS: the HOUSE come to by go, the HOUSE sounded, how often. */
        final int[] came = new int[UNITS];
        final int[] sounded = new int[UNITS];
        final int[] times = new int[UNITS];
        /** The UNITS at which he sounds, in their order. */
        final int[] soundedAt = new int[UNITS];
        int soundings = 0;

        Trail() {
            clear();
        }

        private void clear() {
            stop = 0;
            soundings = 0;
            Arrays.fill(came, NONE);
            Arrays.fill(sounded, NONE);
            Arrays.fill(times, 0);
        }

        /** Goes through the first ACTS, so many at most, up to the first one that can't be. */
        void walk(Street street, Round round, int most) {
            clear();
            house = round.house;
            unit = round.unit;
            boolean can = street.hasHouse(house);
            for (int i = 0; i < round.acts && i < most && can; i++) {
                can = step(street, round.kind[i], round.number[i]);
                if (can) {
                    stop = i + 1;
                }
            }
        }

        private boolean step(Street street, int kind, int number) {
            if (kind == SOUND) {
                soundHere();
                return true;
            }
            if (kind == GO && !street.hasHouse(number)) {
                return false;
            }
            int units = kind == GO ? street.doorUnits(house, number) : number;
            if (units <= 0 || unit + units > LAST_UNIT) {
                return false;
            }
            unit += units;
            if (kind == GO) {
                house = number;
                came[unit] = number;
            }
            return true;
        }

        private void soundHere() {
            if (times[unit] == 0 && soundings < UNITS) {
                soundedAt[soundings] = unit;
                soundings++;
            }
            sounded[unit] = house;
            times[unit]++;
        }
    }

    /** Who sleeps how deep at each UNIT, as a trail of a ROUND wakes him, and what is due by a LAW. */
    private static final class Night {
        Street street;
        Law law;
        Trail trail;
        /** DEPTH by SLEEPERS and UNITS, NONE of one who is awake. */
        final int[] depths = new int[MOST_SLEEPERS * UNITS];
        /** Who stands in for each one. */
        final int[] standin = new int[MOST_SLEEPERS];
        /** DUE by SLEEPERS, as reckoned last. */
        final int[] dues = new int[MOST_SLEEPERS];
        private final int[] bedReadings = new int[BEDS];

        Night(Street street, Law law, Trail trail) {
            this.street = street;
            this.law = law;
            this.trail = trail;
        }

        void open(Street ofStreet, Law ofLaw, Trail ofTrail) {
            street = ofStreet;
            law = ofLaw;
            trail = ofTrail;
            for (int k = 0; k < street.sleepers; k++) {
                standin[k] = street.standinOf(k);
                layDown(k);
            }
            reckonDues();
        }

        /** Reckons all DEPTHS of one SLEEPER. */
        void layDown(int k) {
            keepAwake(k);
            int since = street.lies[k];
            int up = street.upAt(k);
            for (int u = since; u < up && u < UNITS; u++) {
                if (isWaking(k, u)) {
                    since = u;
                }
                depths[k * UNITS + u] = street.depthSince(k, u, since);
            }
        }

        void keepAwake(int k) {
            Arrays.fill(depths, k * UNITS, (k + 1) * UNITS, NONE);
        }

        /** Whether a coming at a UNIT stirs the CAT of his HOUSE. */
        boolean isWaking(int k, int u) {
            int to = trail.came[u];
            int from = street.house[k];
            return to != NONE && street.hasCat(from) && street.doorUnits(from, to) > 0;
        }

        boolean isAsleep(int k, int u) {
            return depths[k * UNITS + u] != NONE;
        }

        int wokenTimes() {
            int many = 0;
            for (int k = 0; k < street.sleepers; k++) {
                for (int u = 0; u < UNITS; u++) {
                    if (isWaking(k, u) && isAsleep(k, u)) {
                        many++;
                    }
                }
            }
            return many;
        }

        int wokenLast(int k) {
            int last = NONE;
            for (int u = 0; u < UNITS; u++) {
                if (isWaking(k, u) && isAsleep(k, u)) {
                    last = u;
                }
            }
            return last;
        }

        /** His READING, were his HOUSE sounded at a UNIT; NONE if he would not be READ. */
        int reading(int k, int u) {
            int own = depths[k * UNITS + u];
            if (own == NONE || street.manner[k] == CHILD) {
                return NONE;
            }
            if (standin[k] == NONE) {
                return own;
            }
            int other = depths[standin[k] * UNITS + u];
            return other == NONE ? 0 : other;
        }

        /** The greatest READING of the others in his BED, NONE without. */
        int readingBeside(int k, int u) {
            int greatest = NONE;
            for (int j = 0; j < street.sleepers; j++) {
                if (j != k && street.house[j] == street.house[k] && street.bed[j] == street.bed[k]) {
                    greatest = Math.max(greatest, reading(j, u));
                }
            }
            return greatest;
        }

        /** CHARGE, were his HOUSE sounded at a UNIT. */
        int charge(int k, int u) {
            int read = reading(k, u);
            if (read == NONE) {
                return 0;
            }
            if (law.shared) {
                read = Math.max(read, readingBeside(k, u));
            }
            return law.chargeOf(read, u, street.house[k], street.hasPoppy(k, u));
        }

        /** All CHARGES of his at the UNITS of a NIGHT, as if BEDS were not shared. */
        int chargesAlone(int k) {
            int sum = 0;
            for (int u = 0; u < UNITS; u++) {
                int read = reading(k, u);
                if (read != NONE) {
                    sum += law.chargeOf(read, u, street.house[k], street.hasPoppy(k, u));
                }
            }
            return sum;
        }

        void reckonDues() {
            Arrays.fill(dues, 0);
            for (int i = 0; i < trail.soundings; i++) {
                reckonSounding(trail.soundedAt[i]);
            }
            for (int k = 0; k < street.sleepers; k++) {
                dues[k] = Math.min(dues[k], law.cap);
            }
        }

        private void reckonSounding(int u) {
            int house = trail.sounded[u];
            if (law.shared) {
                readBeds(house, u);
            }
            for (int k = 0; k < street.sleepers; k++) {
                int read = street.house[k] == house ? reading(k, u) : NONE;
                if (read != NONE) {
                    int taxed = law.shared ? bedReadings[street.bed[k]] : read;
                    dues[k] += trail.times[u] * law.chargeOf(taxed, u, house, street.hasPoppy(k, u));
                }
            }
        }

        /** The greatest READING in each BED of a HOUSE. */
        private void readBeds(int house, int u) {
            Arrays.fill(bedReadings, NONE);
            for (int k = 0; k < street.sleepers; k++) {
                if (street.house[k] == house) {
                    int bed = street.bed[k];
                    bedReadings[bed] = Math.max(bedReadings[bed], reading(k, u));
                }
            }
        }

        int dueOfAll() {
            int sum = 0;
            for (int k = 0; k < street.sleepers; k++) {
                sum += dues[k];
            }
            return sum;
        }

        int dueOfHouse(int house) {
            int sum = 0;
            for (int k = 0; k < street.sleepers; k++) {
                if (street.house[k] == house) {
                    sum += dues[k];
                }
            }
            return sum;
        }

        /** How many READINGS there are from a UNIT on, ahead of another one. */
        int readings(int from, int to) {
            int many = 0;
            for (int u = from; u < to && u < UNITS; u++) {
                for (int k = 0; k < street.sleepers; k++) {
                    if (trail.sounded[u] == street.house[k] && reading(k, u) != NONE) {
                        many += trail.times[u];
                    }
                }
            }
            return many;
        }

        int latestReading(int k) {
            int latest = NONE;
            for (int i = 0; i < trail.soundings; i++) {
                int u = trail.soundedAt[i];
                int read = reading(k, u);
                if (trail.sounded[u] == street.house[k] && read != NONE) {
                    latest = read;
                }
            }
            return latest;
        }

        /** Bits of those who have READINGS above MARK, were all HOUSES sounded at a UNIT. */
        int aboveMark(int u) {
            int bits = 0;
            for (int k = 0; k < street.sleepers; k++) {
                if (reading(k, u) > law.mark) {
                    bits |= 1 << k;
                }
            }
            return bits;
        }

        boolean isAnyCaught() {
            for (int i = 0; i < trail.soundings; i++) {
                int u = trail.soundedAt[i];
                if ((aboveMark(u) & sleepersOf(trail.sounded[u])) != 0) {
                    return true;
                }
            }
            return false;
        }

        int sleepersOf(int house) {
            int bits = 0;
            for (int k = 0; k < street.sleepers; k++) {
                if (street.house[k] == house) {
                    bits |= 1 << k;
                }
            }
            return bits;
        }
    }

    /** What a night would come to, were things otherwise than told. The night has been opened before each. */
    private static final class Plans {
        final Night night;
        final Street changed = new Street();
        /** What was found last: the least DUE, where, by which row; how many. */
        int best = 0;
        int bestAt = NONE;
        final int[] bestRow = new int[MOST_SLEEPERS];
        int found = 0;
        final int[] drawnDue = new int[MOST_SLEEPERS];
        private final int[] row = new int[MOST_SLEEPERS];
        /** DEPTHS of each SLEEPER by each LIES that he may like; behind these, of one who dozes. */
        private final int[] lain = new int[SEVEN_SLEEPERS * (SEVEN_LIES + 1) * UNITS];
        /** The least that is due of each SLEEPER, when all others doze. */
        private final int[] alone = new int[SEVEN_SLEEPERS];
        private final int[] beside = new int[UNITS];

        Plans(Night night) {
            this.night = night;
        }

        void findSeven() {
            changed.copyFrom(night.street);
            night.street = changed;
            for (int k = 0; k < changed.sleepers && k < SEVEN_SLEEPERS; k++) {
                reckonLain(k);
            }
            for (int k = 0; k < changed.sleepers && k < SEVEN_SLEEPERS; k++) {
                reckonAlone(k);
            }
            best = changed.sleepers == 0 ? 0 : FAR;
            tryLies(this, 0);
        }

        /** One who dozes sleeps at each UNIT as little as by any LIES. */
        private void reckonLain(int k) {
            int dozing = (k * (SEVEN_LIES + 1) + SEVEN_LIES) * UNITS;
            Arrays.fill(lain, dozing, dozing + UNITS, FAR);
            for (int lies = 0; lies < SEVEN_LIES; lies++) {
                changed.lies[k] = lies;
                changed.rises[k] = lies + SEVEN_UNITS;
                night.layDown(k);
                int from = (k * (SEVEN_LIES + 1) + lies) * UNITS;
                for (int u = 0; u < UNITS; u++) {
                    lain[from + u] = night.depths[k * UNITS + u];
                    lain[dozing + u] = Math.min(lain[dozing + u], lain[from + u]);
                }
            }
            doze(k);
        }

        private void layDownAt(int k, int lies) {
            System.arraycopy(lain, (k * (SEVEN_LIES + 1) + lies) * UNITS, night.depths, k * UNITS, UNITS);
        }

        private void doze(int k) {
            layDownAt(k, SEVEN_LIES);
        }

        private void reckonAlone(int k) {
            alone[k] = FAR;
            for (int lies = 0; lies < SEVEN_LIES; lies++) {
                layDownAt(k, lies);
                night.reckonDues();
                alone[k] = Math.min(alone[k], night.dues[k]);
            }
            doze(k);
        }

        /**
         * Tries all LIES of a SLEEPER and those behind him, who doze until then: as nobody's DUE grows
         * less when another one sleeps longer or deeper, rows that are too dear so far are left at once.
         */
        private static void tryLies(Plans plans, int k) {
            int sleepers = plans.changed.sleepers;
            if (k >= sleepers || k >= SEVEN_SLEEPERS) {
                return;
            }
            for (int lies = 0; lies < SEVEN_LIES; lies++) {
                plans.layDownAt(k, lies);
                plans.night.reckonDues();
                int due = plans.leastDue(k);
                if (due < plans.best) {
                    plans.row[k] = lies;
                    if (k + 1 == sleepers) {
                        plans.best = due;
                        System.arraycopy(plans.row, 0, plans.bestRow, 0, MOST_SLEEPERS);
                    } else {
                        tryLies(plans, k + 1);
                    }
                }
            }
            plans.doze(k);
        }

        /** What is due at least, when all behind a SLEEPER may yet lie down as they like. */
        private int leastDue(int k) {
            int sum = 0;
            for (int j = 0; j < changed.sleepers && j < SEVEN_SLEEPERS; j++) {
                sum += j <= k ? night.dues[j] : Math.max(night.dues[j], alone[j]);
            }
            return sum;
        }

        /** The least DUE of a SLEEPER by one alarm, or by two, and its UNIT or UNITS. */
        void findAlarms(int k, boolean two) {
            for (int u = 0; u < UNITS; u++) {
                beside[u] = night.law.shared ? night.readingBeside(k, u) : NONE;
            }
            best = FAR;
            for (int a = 0; a < UNITS; a++) {
                int last = two ? LAST_UNIT : a;
                for (int b = a; b <= last; b++) {
                    int due = dueByAlarms(k, a, b);
                    if (due < best) {
                        best = due;
                        bestAt = two ? UNITS * a + b : a;
                    }
                }
            }
        }

        private int dueByAlarms(int k, int a, int b) {
            Street street = night.street;
            if (street.manner[k] == CHILD) {
                return 0;
            }
            int since = street.lies[k];
            int up = street.upAt(k);
            int sum = 0;
            for (int u = since; u < up && u < UNITS; u++) {
                if (u == a || u == b || night.isWaking(k, u)) {
                    since = u;
                }
                if (night.trail.sounded[u] == street.house[k]) {
                    int own = night.standin[k] == NONE ? street.depthSince(k, u, since) : night.reading(k, u);
                    int read = Math.max(own, beside[u]);
                    sum += night.trail.times[u]
                            * night.law.chargeOf(read, u, street.house[k], street.hasPoppy(k, u));
                }
            }
            return Math.min(sum, night.law.cap);
        }

        void findStandins() {
            found = 0;
            best = FAR;
            Arrays.fill(night.standin, NONE);
            tryStandins(this, 0, 0);
        }

        /** Tries all who may stand in for a SLEEPER and those behind him; some stand in already. */
        private static void tryStandins(Plans plans, int k, int standing) {
            Night night = plans.night;
            Street street = night.street;
            if (k >= street.sleepers || k >= MOST_SLEEPERS) {
                night.reckonDues();
                plans.found++;
                plans.best = Math.min(plans.best, night.dueOfAll());
                return;
            }
            tryStandins(plans, k + 1, standing);
            if (street.manner[k] != RICH) {
                return;
            }
            for (int j = 0; j < street.sleepers; j++) {
                boolean may = street.manner[j] == PLAIN && street.house[j] == street.house[k];
                if (may && (standing >> j & 1) == 0) {
                    night.standin[k] = j;
                    tryStandins(plans, k + 1, standing | 1 << j);
                }
            }
            night.standin[k] = NONE;
        }

        /** DUES by SLEEPERS of all nights, and on how many of them somebody was READ above MARK. */
        void draw(int seed, int nights) {
            changed.copyFrom(night.street);
            Arrays.fill(drawnDue, 0);
            found = 0;
            int x = seed;
            for (int i = 0; i < nights; i++) {
                x = drawWine(x);
                night.open(changed, night.law, night.trail);
                for (int k = 0; k < changed.sleepers; k++) {
                    drawnDue[k] += night.dues[k];
                }
                if (night.isAnyCaught()) {
                    found++;
                }
            }
        }

        private int drawWine(int seed) {
            int x = seed;
            changed.wines = 0;
            for (int k = 0; k < changed.sleepers; k++) {
                x = nextSeed(x);
                if ((x >>> 16) % 4 == 0) {
                    x = nextSeed(x);
                    changed.addWine(k, (x >>> 16) % UNITS);
                }
            }
            return x;
        }

        private static int nextSeed(int x) {
            return x * 1103515245 + 12345;
        }

        int drawnInAll() {
            int sum = 0;
            for (int k = 0; k < MOST_SLEEPERS; k++) {
                sum += drawnDue[k];
            }
            return sum;
        }

        /** Bits of the most SLEEPERS whose DUES are so many coins or fewer. */
        int mostPaid(int coins) {
            int most = 0;
            for (int set = 1; set < 1 << night.street.sleepers; set++) {
                if (Integer.bitCount(set) > Integer.bitCount(most) && dueOfSet(set) <= coins) {
                    most = set;
                }
            }
            return most;
        }

        private int dueOfSet(int set) {
            int sum = 0;
            for (int k = 0; k < MOST_SLEEPERS; k++) {
                if ((set >> k & 1) != 0) {
                    sum += night.dues[k];
                }
            }
            return sum;
        }
    }

    /** Ways by DOORS. */
    private static final class Ways {
        static final int SETS = 1 << MOST_HOUSES;

        int soldSum = 0;
        int soldHouses = 0;
        final int[] soldRow = new int[MOST_HOUSES];
        private Street street = new Street();
        private final int[] row = new int[MOST_HOUSES];
        /** By HOUSES and UNITS: all CHARGES there. */
        private final int[] charges = new int[CELLS];
        /** By HOUSES: the most that may be had there at any UNIT. */
        private final int[] most = new int[MOST_HOUSES];
        /** By HOUSES and UNITS: bits of those above MARK there. */
        private final int[] above = new int[CELLS];
        /** By HOUSES and UNITS: how many rows are there. */
        private long[] now = new long[CELLS];
        private long[] next = new long[CELLS];
        private final long[] ended = new long[CELLS];
        private final int[] fewest = new int[MOST_HOUSES * MOST_HOUSES];
        /** By sets of HOUSES gone to, and the last one of them. */
        private final int[] fewestBySet = new int[SETS * MOST_HOUSES];

        int fewestUnits(Street ofStreet, int from, int to) {
            reckonFewest(ofStreet);
            int units = fewest[from * MOST_HOUSES + to];
            return units < FAR ? units : NONE;
        }

        private void reckonFewest(Street ofStreet) {
            int houses = ofStreet.houses;
            for (int h = 0; h < houses; h++) {
                for (int k = 0; k < houses; k++) {
                    int units = ofStreet.doorUnits(h, k);
                    fewest[h * MOST_HOUSES + k] = h == k ? 0 : units > 0 ? units : FAR;
                }
            }
            for (int by = 0; by < houses; by++) {
                for (int h = 0; h < houses; h++) {
                    for (int k = 0; k < houses; k++) {
                        int units = fewest[h * MOST_HOUSES + by] + fewest[by * MOST_HOUSES + k];
                        fewest[h * MOST_HOUSES + k] = Math.min(fewest[h * MOST_HOUSES + k], units);
                    }
                }
            }
        }

        int fewestToAll(Street ofStreet, int from) {
            reckonFewest(ofStreet);
            int houses = ofStreet.houses;
            int all = (1 << houses) - 1;
            Arrays.fill(fewestBySet, FAR);
            fewestBySet[(1 << from) * MOST_HOUSES + from] = 0;
            for (int set = 1; set < all; set++) {
                for (int h = 0; h < houses; h++) {
                    if (fewestBySet[set * MOST_HOUSES + h] < FAR) {
                        goOnFrom(set, h, houses);
                    }
                }
            }
            int least = FAR;
            for (int h = 0; h < houses; h++) {
                least = Math.min(least, fewestBySet[all * MOST_HOUSES + h]);
            }
            return least < FAR ? least : NONE;
        }

        private void goOnFrom(int set, int h, int houses) {
            int units = fewestBySet[set * MOST_HOUSES + h];
            for (int k = 0; k < houses; k++) {
                if ((set >> k & 1) == 0) {
                    int at = (set | 1 << k) * MOST_HOUSES + k;
                    fewestBySet[at] = Math.min(fewestBySet[at], units + fewest[h * MOST_HOUSES + k]);
                }
            }
        }

        static int leastCats(Street street) {
            int least = (1 << street.houses) - 1;
            for (int set = (1 << street.houses) - 1; set > 0; set--) {
                if (Integer.bitCount(set) <= Integer.bitCount(least) && reachesAll(street, set)) {
                    least = set;
                }
            }
            return least;
        }

        private static boolean reachesAll(Street street, int set) {
            for (int h = 0; h < street.houses; h++) {
                boolean reached = (set >> h & 1) != 0;
                for (int k = 0; k < street.houses && !reached; k++) {
                    reached = (set >> k & 1) != 0 && street.doorUnits(h, k) > 0;
                }
                if (!reached) {
                    return false;
                }
            }
            return true;
        }

        void findSold(Night night) {
            street = night.street;
            Arrays.fill(charges, 0);
            for (int k = 0; k < street.sleepers; k++) {
                for (int u = 0; u < UNITS; u++) {
                    charges[street.house[k] * UNITS + u] += night.charge(k, u);
                }
            }
            int rest = 0;
            for (int h = 1; h < street.houses; h++) {
                most[h] = mostIn(h);
                rest += most[h];
            }
            soldSum = NONE;
            sellIn(this, 0, 0, 0, 0, 0, rest);
        }

        private int mostIn(int h) {
            int greatest = 0;
            for (int u = 0; u < UNITS; u++) {
                greatest = Math.max(greatest, charges[h * UNITS + u]);
            }
            return greatest;
        }

        /** Comes to a HOUSE behind so many others; what is yet to be had behind it is rest at most. */
        private static void sellIn(Ways ways, int behind, int h, int unit, int gone, int sum, int rest) {
            if (behind >= MOST_HOUSES) {
                return;
            }
            ways.row[behind] = h;
            int all = sum + ways.charges[h * UNITS + unit];
            if (all > ways.soldSum) {
                ways.soldSum = all;
                ways.soldHouses = behind + 1;
                System.arraycopy(ways.row, 0, ways.soldRow, 0, MOST_HOUSES);
            }
            if (all + rest <= ways.soldSum) {
                return;
            }
            int goneNow = gone | 1 << h;
            for (int k = 0; k < ways.street.houses; k++) {
                int units = ways.street.doorUnits(h, k);
                if (units > 0 && unit + units <= LAST_UNIT && (goneNow >> k & 1) == 0) {
                    sellIn(ways, behind + 1, k, unit + units, goneNow, all, rest - ways.most[k]);
                }
            }
        }

        /**
         * Counts the rows by HOUSES and UNITS at which they end. Those in which all of some caught
         * ones are caught are told from those in which some of them are quiet, by all sets of these.
         */
        void findWent(Night night, Catch caught, int goes) {
            street = night.street;
            for (int h = 0; h < MOST_HOUSES; h++) {
                for (int u = 0; u < UNITS; u++) {
                    above[h * UNITS + u] = night.aboveMark(u) & night.sleepersOf(h);
                }
            }
            Arrays.fill(ended, 0L);
            int all = caught.bitsOf(true);
            int quiet = caught.bitsOf(false);
            for (int set = 0; set <= all; set++) {
                if ((set & ~all) == 0) {
                    goQuietly(quiet | set, goes);
                    addEnded(Integer.bitCount(set) % 2 == 0 ? 1 : -1);
                }
            }
        }

        /** Counts the rows in which all of a set are quiet. */
        private void goQuietly(int quiet, int goes) {
            Arrays.fill(now, 0L);
            if ((above[0] & quiet) == 0) {
                now[0] = 1;
            }
            for (int i = 0; i < goes; i++) {
                Arrays.fill(next, 0L);
                for (int h = 0; h < street.houses; h++) {
                    for (int u = i; u < LAST_UNIT; u++) {
                        if (now[h * UNITS + u] != 0) {
                            goAllWays(h, u, quiet);
                        }
                    }
                }
                long[] last = now;
                now = next;
                next = last;
            }
        }

        private void goAllWays(int h, int u, int quiet) {
            long many = now[h * UNITS + u];
            for (int k = 0; k < street.houses; k++) {
                int units = street.doorUnits(h, k);
                if (units > 0 && u + units <= LAST_UNIT) {
                    int to = k * UNITS + u + units;
                    if ((above[to] & quiet) == 0) {
                        next[to] += many;
                    }
                }
            }
        }

        private void addEnded(int sign) {
            for (int i = 0; i < CELLS; i++) {
                ended[i] += sign * now[i];
            }
        }

        long wentTo(int house) {
            long sum = 0;
            for (int u = 0; u < UNITS; u++) {
                sum += ended[house * UNITS + u];
            }
            return sum;
        }

        long wentInAll() {
            long sum = 0;
            for (int h = 0; h < street.houses; h++) {
                sum += wentTo(h);
            }
            return sum;
        }

        int wentSoonest() {
            for (int u = 0; u < UNITS; u++) {
                for (int h = 0; h < street.houses; h++) {
                    if (ended[h * UNITS + u] > 0) {
                        return u;
                    }
                }
            }
            return NONE;
        }
    }
}
