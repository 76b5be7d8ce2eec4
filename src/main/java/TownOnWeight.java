/**
 * A town on one weight: houses on shafts that branch take feet of one great weight in their hours.
 *
 * All rows are made once, by the constructor, and used again: no call makes an object.
 */
public final class TownOnWeight {
    public static final int NONE = -1, UNKNOWN = -101, OUTSIDE = -102, STATE = -103, FULL = -104;

    private static final int MOST_HOUSES = 8;
    private static final int MOST_READINGS = 8;
    private static final int MOST_LETTERS = 12;
    private static final int LETTERS_OF_HOUSE = 6;
    private static final int LETTERS_OF_LONG = 8;
    private static final int GREATEST_CODE = 126;
    private static final int HOURS = 9;
    private static final int FIRST_LENGTH = 60;
    private static final int MOST_FEET = 99;
    private static final int MOST_MISSING = 72;
    private static final int MOST_READ = 199;
    private static final int MOST_OWED = 999;
    private static final int GREATEST_LEAK = 9;

    private static final int CLOCK = 1;
    private static final int HUNGRY = 2;
    private static final int STORING = 3;
    private static final int SECRET = 4;
    private static final String KIND_LETTERS = "hcusx";

    private final Page page = new Page();
    private final Houses houses = new Houses();
    private final Day day = new Day();
    private final Readings readings = new Readings();

    /** A second day, on which what would be is tried without touching the first. */
    private final Day ahead = new Day();

    private boolean hasImage;
    private int imageHouses;
    private final Day imageDay = new Day();
    private final Readings imageReadings = new Readings();

    public TownOnWeight() {
    }

    // ---- houses

    public int letters(long w) {
        int more = Page.lettersIn(w);
        if (more < 0) {
            return OUTSIDE;
        }
        if (page.size + more > MOST_LETTERS) {
            return FULL;
        }
        page.append(w, more);
        return page.size;
    }

    public int blank() {
        int had = page.size;
        page.size = 0;
        return had;
    }

    public int fault() {
        return page.faultAt(houses.number);
    }

    public int house() {
        if (!page.isHouse(houses.number) || day.hasBegun()) {
            return STATE;
        }
        if (houses.number >= MOST_HOUSES) {
            return FULL;
        }
        int added = houses.number;
        houses.add(page);
        page.size = 0;
        return added;
    }

    public int about(int house, int what) {
        if (!houses.has(house)) {
            return UNKNOWN;
        }
        switch (what) {
            case 0: return houses.kind[house];
            case 1: return houses.parent[house];
            case 2: return houses.from[house];
            case 3: return houses.to[house];
            case 4: return houses.takes[house];
            case 5: return houses.loss[house];
            case 6: return day.taken[house];
            case 7: return day.owed[house];
            case 8: return oneIf(isIn(day.brakes, house));
            default: return OUTSIDE;
        }
    }

    public int as(int house, int kind) {
        if (!houses.has(house)) {
            return UNKNOWN;
        }
        if (kind < 0 || kind >= KIND_LETTERS.length()) {
            return OUTSIDE;
        }
        return houses.isA(house, kind) ? house : NONE;
    }

    public int length(int v) {
        if (v < 1 || v > MOST_FEET) {
            return OUTSIDE;
        }
        if (day.hasBegun()) {
            return STATE;
        }
        int was = day.length;
        day.length = v;
        day.hangs = v;
        return was;
    }

    public int brake(int house, boolean is) {
        if (!houses.has(house)) {
            return UNKNOWN;
        }
        int had = oneIf(isIn(day.brakes, house));
        day.brakes = is ? day.brakes | bit(house) : day.brakes & ~bit(house);
        return had;
    }

    public int rain(boolean is) {
        int was = oneIf(day.rain);
        day.rain = is;
        return was;
    }

    // ---- a day

    public int wants(int house) {
        return houses.has(house) ? day.wantOf(houses, house) : UNKNOWN;
    }

    public int goes(int set) {
        if (!houses.areBits(set)) {
            return OUTSIDE;
        }
        day.tellWanted(houses);
        return day.goesBy(houses, set);
    }

    public int hour() {
        return day.hourComes() ? day.passHour(houses) : STATE;
    }

    public int worked() {
        return day.worked;
    }

    public int part(int house) {
        if (!houses.has(house)) {
            return UNKNOWN;
        }
        day.tellParts(houses.number);
        return day.parts[house];
    }

    public int night() {
        return day.passNight(houses.number);
    }

    // ---- what would be

    public int plan(int what) {
        if (what < 0 || what > 1) {
            return OUTSIDE;
        }
        int brakes = bestBrakes();
        return what == 0 ? takenAhead(day.hangs, brakes) : brakes;
    }

    public int more(int feet) {
        if (feet < 0 || feet > MOST_FEET) {
            return OUTSIDE;
        }
        return takenAhead(day.hangs + feet, day.brakes) - takenAhead(day.hangs, day.brakes);
    }

    public int missing(int feet, int what) {
        if (feet < 1 || feet > MOST_MISSING || what < 0 || what > 2) {
            return OUTSIDE;
        }
        int open = houses.openIn(day.hour);
        int many = 0;
        int inAll = open;
        int inSome = 0;
        for (int set = 1; set <= open; set++) {
            if ((set & ~open) == 0 && houses.takesOf(set) == feet) {
                many++;
                inAll &= set;
                inSome |= set;
            }
        }
        if (many == 0 || what == 0) {
            return many;
        }
        return what == 1 ? inAll : inSome;
    }

    public int rest(int seed, int what) {
        if (seed < 0 || what < 0 || what > 3) {
            return OUTSIDE;
        }
        ahead.copyFrom(day);
        int next = seed;
        int downIn = NONE;
        for (int h = day.hour; h < HOURS && !ahead.down; h++) {
            next = seedAfter(next);
            ahead.rain = next / 65536 % 3 == 0;
            ahead.passHour(houses);
            if (ahead.down) {
                downIn = h;
            }
        }
        switch (what) {
            case 0: return ahead.takenByAll - day.takenByAll;
            case 1: return ahead.hangs;
            case 2: return downIn;
            default: return next;
        }
    }

    // ---- leaks

    public int read(int set, int feet) {
        if (set == 0 || !houses.areBits(set) || feet < 1 || feet > MOST_READ) {
            return OUTSIDE;
        }
        if (readings.number >= MOST_READINGS) {
            return FULL;
        }
        int shafts = houses.waysTo(set);
        readings.add(shafts, feet - houses.takesOf(set) - houses.toldLossOf(shafts));
        return readings.number;
    }

    public int wipe() {
        int were = readings.number;
        readings.number = 0;
        return were;
    }

    public int leaks() {
        int set = 0;
        for (int h = 0; h < houses.number; h++) {
            if (readings.leastLeakOf(h) != NONE) {
                set |= bit(h);
            }
        }
        return set;
    }

    public int leak(int house) {
        return houses.has(house) ? readings.leastLeakOf(house) : UNKNOWN;
    }

    public int look() {
        int suspects = leaks();
        if (suspects == 0) {
            return NONE;
        }
        int best = NONE;
        int fewest = MOST_HOUSES + 1;
        for (int set = 1; set <= houses.all(); set++) {
            int through = houses.waysTo(set);
            int left = Math.max(Integer.bitCount(suspects & through), Integer.bitCount(suspects & ~through));
            if (left < fewest) {
                fewest = left;
                best = set;
            }
        }
        return best;
    }

    // ---- what is told of all

    public int image() {
        hasImage = true;
        imageHouses = houses.number;
        imageDay.copyFrom(day);
        imageReadings.copyFrom(readings);
        return day.hangs;
    }

    public int restore() {
        if (!hasImage) {
            return STATE;
        }
        houses.number = imageHouses;
        day.copyFrom(imageDay);
        readings.copyFrom(imageReadings);
        return day.hangs;
    }

    public int count(int what) {
        switch (what) {
            case 0: return houses.number;
            case 1: return day.length;
            case 2: return day.hangs;
            case 3: return day.hour;
            case 4: return day.takenByAll;
            case 5: return day.lost;
            case 6: return oneIf(day.down);
            case 7: return oneIf(day.rain);
            case 8: return readings.number;
            case 9: return page.size;
            default: return OUTSIDE;
        }
    }

    public long digest() {
        long h = digestOfHouses(601L);
        h = 31L * h + worked();
        h = 31L * h + goes(houses.all());
        int brakes = bestBrakes();
        h = 31L * h + takenAhead(day.hangs, brakes);
        h = 31L * h + brakes;
        h = 31L * h + more(9);
        h = 31L * h + leaks();
        h = 31L * h + look();
        for (int i = 0; i < page.size; i++) {
            h = 31L * h + page.codes[i];
        }
        for (int what = 0; what <= 9; what++) {
            h = 31L * h + count(what);
        }
        return h;
    }

    private long digestOfHouses(long start) {
        long h = start;
        for (int i = 0; i < houses.number; i++) {
            for (int what = 0; what <= 8; what++) {
                h = 31L * h + about(i, what);
            }
            h = 31L * h + wants(i);
            h = 31L * h + part(i);
            h = 31L * h + leak(i);
        }
        return h;
    }

    /** The set of PLAN: sets come by their bits, so of like ones the first that is seen stays. */
    private int bestBrakes() {
        int best = 0;
        int most = takenAhead(day.hangs, 0);
        for (int set = 1; set <= houses.all(); set++) {
            int taken = takenAhead(day.hangs, set);
            boolean fewer = Integer.bitCount(set) < Integer.bitCount(best);
            if (taken > most || (taken == most && fewer)) {
                most = taken;
                best = set;
            }
        }
        return best;
    }

    /** What would be TAKEN from now on, if so much HUNG and just these had BRAKES. */
    private int takenAhead(int hangs, int brakes) {
        ahead.copyFrom(day);
        ahead.hangs = hangs;
        ahead.brakes = brakes;
        // who takes, takes a foot at least: with none left nothing more can be TAKEN
        for (int h = day.hour; h < HOURS && !ahead.down && ahead.hangs > 0; h++) {
            ahead.passHour(houses);
        }
        return ahead.takenByAll - day.takenByAll;
    }

    private static int seedAfter(int seed) {
        return (int) ((1103515245L * seed + 12345L) % 2147483648L);
    }

    private static int bit(int house) {
        return 1 << house;
    }

    private static boolean isIn(int set, int house) {
        return (set >> house & 1) != 0;
    }

    private static int oneIf(boolean is) {
        return is ? 1 : 0;
    }

    /** THE PAGE: letters that may become a HOUSE. */
    private static final class Page {
        private int size;
        private final int[] codes = new int[MOST_LETTERS];

        private static int codeIn(long w, int place) {
            return (int) (w >>> (8 * place)) & 255;
        }

        /** How many letters w tells; NONE if it is not as told. */
        private static int lettersIn(long w) {
            int many = 0;
            boolean ended = false;
            for (int i = 0; i < LETTERS_OF_LONG; i++) {
                int code = codeIn(w, i);
                if (code > GREATEST_CODE || (ended && code != 0)) {
                    return NONE;
                }
                if (code == 0) {
                    ended = true;
                } else {
                    many++;
                }
            }
            return many;
        }

        private void append(long w, int many) {
            for (int i = 0; i < many && size < MOST_LETTERS; i++) {
                codes[size] = codeIn(w, i);
                size++;
            }
        }

        private int faultAt(int housesNow) {
            for (int i = 0; i < size; i++) {
                if (!fits(i, housesNow)) {
                    return i;
                }
            }
            return size;
        }

        private boolean isHouse(int housesNow) {
            return size == LETTERS_OF_HOUSE && faultAt(housesNow) == size;
        }

        /** Whether some HOUSE has this letter at this place, if those ahead of it fit. */
        private boolean fits(int place, int housesNow) {
            int code = codes[place];
            switch (place) {
                case 0: return kindOf(code) >= 0;
                case 1: return code == '-' || isDigit(code, 0, housesNow - 1);
                case 2: return isDigit(code, 0, 8);
                case 3: return isDigit(code, digitAt(2) + 1, 9);
                case 4: return isDigit(code, 1, 9);
                case 5: return isDigit(code, 0, 9);
                default: return false;
            }
        }

        private static int kindOf(int code) {
            return KIND_LETTERS.indexOf((char) code);
        }

        private static boolean isDigit(int code, int least, int greatest) {
            return code >= '0' + least && code <= '0' + greatest;
        }

        private int digitAt(int place) {
            return codes[place] - '0';
        }
    }

    /** What is told of the HOUSES and never changes; a SHAFT bears the number of its HOUSE. */
    private static final class Houses {
        private int number;
        private final int[] kind = new int[MOST_HOUSES];
        private final int[] parent = new int[MOST_HOUSES];
        private final int[] from = new int[MOST_HOUSES];
        private final int[] to = new int[MOST_HOUSES];
        private final int[] takes = new int[MOST_HOUSES];
        private final int[] loss = new int[MOST_HOUSES];
        /** The SHAFTS from above to each HOUSE, its own too, as bits. */
        private final int[] way = new int[MOST_HOUSES];

        private boolean has(int house) {
            return house >= 0 && house < number;
        }

        private int all() {
            return bit(number) - 1;
        }

        private boolean areBits(int set) {
            return set >= 0 && set <= all();
        }

        /** THE PAGE is a HOUSE, and there is room for it. */
        private void add(Page page) {
            int h = number;
            kind[h] = Page.kindOf(page.codes[0]);
            parent[h] = page.codes[1] == '-' ? NONE : page.digitAt(1);
            from[h] = page.digitAt(2);
            to[h] = page.digitAt(3);
            takes[h] = page.digitAt(4);
            loss[h] = page.digitAt(5);
            way[h] = bit(h) | (has(parent[h]) ? way[parent[h]] : 0);
            number++;
        }

        private boolean isA(int house, int asKind) {
            return asKind == 0 || kind[house] == asKind || (asKind == HUNGRY && kind[house] == SECRET);
        }

        private boolean isOpen(int house, int hour) {
            return from[house] <= hour && hour < to[house];
        }

        private int openIn(int hour) {
            int set = 0;
            for (int h = 0; h < number; h++) {
                if (isOpen(h, hour)) {
                    set |= bit(h);
                }
            }
            return set;
        }

        private int takesOf(int set) {
            int feet = 0;
            for (int h = 0; h < number; h++) {
                if (isIn(set, h)) {
                    feet += takes[h];
                }
            }
            return feet;
        }

        private int waysTo(int set) {
            int shafts = 0;
            for (int h = 0; h < number; h++) {
                if (isIn(set, h)) {
                    shafts |= way[h];
                }
            }
            return shafts;
        }

        /** LOSS as a READING has it: of a SECRET, too, and no RAIN. */
        private int toldLossOf(int shafts) {
            int feet = 0;
            for (int s = 0; s < number; s++) {
                if (isIn(shafts, s)) {
                    feet += loss[s];
                }
            }
            return feet;
        }

        private int lossOf(int shafts, boolean rain) {
            int feet = 0;
            for (int s = 0; s < number; s++) {
                if (isIn(shafts, s) && kind[s] != SECRET) {
                    feet += rain ? loss[s] + 1 : loss[s];
                }
            }
            return feet;
        }
    }

    /**
     * All that changes as HOURS and NIGHTS pass.
     *
     * Of numbers that no HOUSE has the rows hold 0 and BRAKES no bit, as only restore() takes HOUSES away
     * and brings back the rows of a time at which they had not come: so a new HOUSE begins with nothing.
     */
    private static final class Day {
        private int length = FIRST_LENGTH;
        private int hangs = FIRST_LENGTH;
        private int hour;
        private int lost;
        private int worked;
        private int brakes;
        private boolean rain;
        private boolean down;
        private int takenByAll;
        private final int[] taken = new int[MOST_HOUSES];
        private final int[] owed = new int[MOST_HOUSES];

        /** Rows that hold only what was told last: by tellWanted, and by tellParts. */
        private final int[] wanted = new int[MOST_HOUSES];
        private final int[] parts = new int[MOST_HOUSES];
        private final int[] rests = new int[MOST_HOUSES];

        private void copyFrom(Day other) {
            length = other.length;
            hangs = other.hangs;
            hour = other.hour;
            lost = other.lost;
            worked = other.worked;
            brakes = other.brakes;
            rain = other.rain;
            down = other.down;
            takenByAll = other.takenByAll;
            System.arraycopy(other.taken, 0, taken, 0, MOST_HOUSES);
            System.arraycopy(other.owed, 0, owed, 0, MOST_HOUSES);
        }

        private boolean hasBegun() {
            return hour > 0;
        }

        private boolean hourComes() {
            return hour < HOURS && !down;
        }

        private int wantOf(Houses houses, int house) {
            if (!houses.isOpen(house, hour) || isIn(brakes, house)) {
                return 0;
            }
            int feet = houses.takes[house];
            if (houses.isA(house, HUNGRY) && hour == houses.from[house]) {
                return 2 * feet;
            }
            if (houses.isA(house, STORING) && isIn(worked, house)) {
                return feet - 1;
            }
            return feet;
        }

        private void tellWanted(Houses houses) {
            for (int h = 0; h < houses.number; h++) {
                wanted[h] = wantOf(houses, h);
            }
        }

        /** What GOES by a set, by what was told as wanted. */
        private int goesBy(Houses houses, int set) {
            int feet = 0;
            int shafts = 0;
            for (int h = 0; h < houses.number; h++) {
                if (isIn(set, h) && wanted[h] > 0) {
                    feet += wanted[h];
                    shafts |= houses.way[h];
                }
            }
            return feet + houses.lossOf(shafts, rain);
        }

        private int passHour(Houses houses) {
            tellWanted(houses);
            int set = houses.all();
            int feet = goesBy(houses, set);
            for (int h = houses.number - 1; h >= 0 && feet > hangs; h--) {
                if (wanted[h] > 0 && !houses.isA(h, CLOCK)) {
                    set &= ~bit(h);
                    feet = goesBy(houses, set);
                }
            }
            if (feet > hangs) {
                // only CLOCKS are left, which may not stop
                down = true;
                feet = hangs;
                set = 0;
            }
            letWork(houses.number, set, feet);
            hour++;
            return feet;
        }

        /** Those of the set that want feet work, and so many feet go down. */
        private void letWork(int number, int set, int feet) {
            int takenNow = 0;
            worked = 0;
            for (int h = 0; h < number; h++) {
                if (isIn(set, h) && wanted[h] > 0) {
                    taken[h] += wanted[h];
                    takenNow += wanted[h];
                    worked |= bit(h);
                }
            }
            takenByAll += takenNow;
            lost += feet - takenNow;
            hangs -= feet;
        }

        private void tellParts(int number) {
            int depth = length - hangs;
            int left = takenByAll > 0 ? depth : 0;
            for (int h = 0; h < number; h++) {
                parts[h] = takenByAll > 0 ? depth * taken[h] / takenByAll : 0;
                rests[h] = takenByAll > 0 ? depth * taken[h] % takenByAll : 0;
                left -= parts[h];
            }
            for (int i = 0; i < number && left > 0; i++) {
                int h = greatestRest(number);
                parts[h]++;
                rests[h] = NONE;
                left--;
            }
        }

        /** The least number of those with the greatest rest; 0 if there is no HOUSE. */
        private int greatestRest(int number) {
            int best = 0;
            for (int h = 1; h < number; h++) {
                if (rests[h] > rests[best]) {
                    best = h;
                }
            }
            return best;
        }

        private int passNight(int number) {
            int depth = length - hangs;
            tellParts(number);
            for (int h = 0; h < number; h++) {
                owed[h] = Math.min(MOST_OWED, owed[h] + parts[h]);
                taken[h] = 0;
            }
            hour = 0;
            hangs = length;
            takenByAll = 0;
            lost = 0;
            worked = 0;
            down = false;
            return depth;
        }
    }

    /** READINGS, each kept as the SHAFTS it went through and the feet that are more than told. */
    private static final class Readings {
        private int number;
        private final int[] through = new int[MOST_READINGS];
        private final int[] extra = new int[MOST_READINGS];

        private void add(int shafts, int feet) {
            if (number < MOST_READINGS) {
                through[number] = shafts;
                extra[number] = feet;
                number++;
            }
        }

        private void copyFrom(Readings other) {
            number = other.number;
            System.arraycopy(other.through, 0, through, 0, MOST_READINGS);
            System.arraycopy(other.extra, 0, extra, 0, MOST_READINGS);
        }

        private int leastLeakOf(int shaft) {
            for (int e = 1; e <= GREATEST_LEAK; e++) {
                if (givesAll(shaft, e)) {
                    return e;
                }
            }
            return NONE;
        }

        private boolean givesAll(int shaft, int e) {
            for (int r = 0; r < number; r++) {
                int shown = isIn(through[r], shaft) ? e : 0;
                if (shown != extra[r]) {
                    return false;
                }
            }
            return true;
        }
    }
}
