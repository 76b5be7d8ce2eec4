import java.math.BigInteger;
import java.util.ArrayList;
import java.util.List;
import java.util.Random;
import java.util.Set;
import java.util.TreeSet;

/**
 * Long runs of drawn calls, each answer held against a second reading of the document: a model that
 * keeps everything as lists and sets and works out each answer anew, with none of the class's shortcuts.
 */
public final class ModelTest {
    private static final int NONE = -1, UNKNOWN = -101, OUTSIDE = -102, STATE = -103, FULL = -104;
    private static final int RUNS = 600;
    private static final int CALLS = 512;

    private static int wrong = 0;
    private static long answers = 0;

    public static void main(String[] args) {
        for (int run = 0; run < RUNS && wrong == 0; run++) {
            new Run(run).go();
        }
        System.out.println(answers + " answers held against the model, " + wrong + " wrong");
        if (wrong != 0) {
            System.exit(1);
        }
    }

    /** One object and its model, driven by the same drawn calls. */
    private static final class Run {
        private final int number;
        private final Random random;
        private final TownOnWeight x = new TownOnWeight();
        private final Model m = new Model();
        private final StringBuilder told = new StringBuilder();
        private int calls = 0;

        Run(int number) {
            this.number = number;
            this.random = new Random(7919L * number + 1);
        }

        void go() {
            int settle = random.nextInt(9);
            for (int i = 0; i < settle; i++) {
                String page = drawnHouse();
                long w = asLong(page);
                same("letters(" + page + ")", x.letters(w), m.letters(w));
                same("house()", x.house(), m.house());
            }
            // one draw may ask twice
            while (calls < CALLS - 1 && wrong == 0) {
                one();
            }
        }

        private void same(String call, long got, long want) {
            answers++;
            calls++;
            told.append(call).append(" = ").append(want).append('\n');
            if (got != want) {
                wrong++;
                System.out.println("run " + number + ":\n" + told);
                System.out.println(call + " answered " + got + ", the model says " + want);
            }
        }

        private int near(int least, int greatest) {
            int off = random.nextInt(40);
            if (off == 0) {
                return least - 1;
            }
            if (off == 1) {
                return greatest + 1;
            }
            if (off == 2) {
                return random.nextInt();
            }
            return least + random.nextInt(greatest - least + 1);
        }

        private int aHouse() {
            return near(0, Math.max(0, m.houses.size() - 1));
        }

        private int aSet() {
            return near(0, Math.max(1, (1 << m.houses.size()) - 1));
        }

        private String drawnHouse() {
            int from = random.nextInt(9);
            if (random.nextBoolean()) {
                from = random.nextInt(3);
            }
            int to = from + 1 + random.nextInt(9 - from);
            int parents = m.houses.size();
            char parent = parents == 0 || random.nextInt(3) == 0 ? '-' : (char) ('0' + random.nextInt(parents));
            int takes = 1 + random.nextInt(random.nextBoolean() ? 3 : 9);
            int loss = random.nextInt(random.nextBoolean() ? 3 : 10);
            return "" + "hcusx".charAt(random.nextInt(5)) + parent + from + to + takes + loss;
        }

        private String drawnPage() {
            StringBuilder page = new StringBuilder(drawnHouse());
            int what = random.nextInt(8);
            if (what == 0) {
                page.setCharAt(random.nextInt(6), "hx-0123456789/:z".charAt(random.nextInt(16)));
            } else if (what == 1) {
                page.setLength(random.nextInt(6));
            } else if (what == 2) {
                page.append("09");
            }
            return page.toString();
        }

        private static long asLong(String letters) {
            long w = 0;
            for (int i = letters.length() - 1; i >= 0; i--) {
                w = w << 8 | letters.charAt(i);
            }
            return w;
        }

        private void one() {
            int call = random.nextInt(34);
            int a;
            int b;
            switch (call) {
                case 0: {
                    long w = random.nextInt(4) == 0 ? random.nextLong() & 0x7f7f7f7f7f7f7fL : asLong(drawnPage());
                    same("letters(" + w + ")", x.letters(w), m.letters(w));
                    break;
                }
                case 1: same("blank()", x.blank(), m.blank()); break;
                case 2: same("fault()", x.fault(), m.fault()); break;
                case 3: case 4: same("house()", x.house(), m.house()); break;
                case 5: a = aHouse(); b = near(0, 8); same("about(" + a + ", " + b + ")", x.about(a, b), m.about(a, b)); break;
                case 6: a = aHouse(); b = near(0, 4); same("as(" + a + ", " + b + ")", x.as(a, b), m.as(a, b)); break;
                case 7: a = near(1, 99); same("length(" + a + ")", x.length(a), m.length(a)); break;
                case 8: {
                    a = aHouse();
                    boolean is = random.nextInt(3) == 0;
                    same("brake(" + a + ", " + is + ")", x.brake(a, is), m.brake(a, is));
                    break;
                }
                case 9: {
                    boolean is = random.nextBoolean();
                    same("rain(" + is + ")", x.rain(is), m.rain(is));
                    break;
                }
                case 10: a = aHouse(); same("wants(" + a + ")", x.wants(a), m.wants(a)); break;
                case 11: a = aSet(); same("goes(" + a + ")", x.goes(a), m.goes(a)); break;
                case 12: case 13: case 14: case 15: same("hour()", x.hour(), m.hour()); break;
                case 16: same("worked()", x.worked(), m.worked()); break;
                case 17: a = aHouse(); same("part(" + a + ")", x.part(a), m.part(a)); break;
                case 18: case 19: same("night()", x.night(), m.night()); break;
                case 20: a = near(0, 1); same("plan(" + a + ")", x.plan(a), m.plan(a)); break;
                case 21: a = near(0, 99); same("more(" + a + ")", x.more(a), m.more(a)); break;
                case 22: a = near(1, 20); b = near(0, 2); same("missing(" + a + ", " + b + ")", x.missing(a, b), m.missing(a, b)); break;
                case 23: a = random.nextInt(); b = near(0, 3); same("rest(" + a + ", " + b + ")", x.rest(a, b), m.rest(a, b)); break;
                case 24: aReading(); break;
                case 25: case 26: same("wipe()", x.wipe(), m.wipe()); aReading(); break;
                case 27: same("leaks()", x.leaks(), m.leaks()); break;
                case 28: a = aHouse(); same("leak(" + a + ")", x.leak(a), m.leak(a)); break;
                case 29: same("look()", x.look(), m.look()); break;
                case 30: same("image()", x.image(), m.image()); break;
                case 31: same("restore()", x.restore(), m.restore()); break;
                case 32: a = near(0, 9); same("count(" + a + ")", x.count(a), m.count(a)); break;
                default: same("digest()", x.digest(), m.digest()); break;
            }
        }

        /** Readings that a leak in a drawn shaft would give, so that LEAKS are seldom empty. */
        private void aReading() {
            int a = aSet();
            int b = near(1, 199);
            if (a > 0 && a < 1 << m.houses.size() && random.nextInt(8) != 0) {
                b = m.toldFor(a) + random.nextInt(4);
            }
            same("read(" + a + ", " + b + ")", x.read(a, b), m.read(a, b));
        }
    }

    /** A HOUSE as it was told. */
    private record House(char kind, int parent, int from, int to, int takes, int loss) { }

    /** A READING as it was told. */
    private record Reading(Set<Integer> set, int feet) { }

    /** All that an IMAGE keeps, and DOWN, without which what HANGS could not go on. */
    private static final class Town {
        int houses;
        int length = 60;
        int hangs = 60;
        int hour;
        int lost;
        boolean down;
        boolean rain;
        Set<Integer> worked = new TreeSet<>();
        Set<Integer> brakes = new TreeSet<>();
        int[] taken = new int[8];
        int[] owed = new int[8];
        List<Reading> readings = new ArrayList<>();

        Town copy() {
            Town t = new Town();
            t.houses = houses;
            t.length = length;
            t.hangs = hangs;
            t.hour = hour;
            t.lost = lost;
            t.down = down;
            t.rain = rain;
            t.worked.addAll(worked);
            t.brakes.addAll(brakes);
            t.taken = taken.clone();
            t.owed = owed.clone();
            t.readings.addAll(readings);
            return t;
        }

        int takenByAll() {
            int sum = 0;
            for (int feet : taken) {
                sum += feet;
            }
            return sum;
        }
    }

    private static final class Model {
        String page = "";
        List<House> houses = new ArrayList<>();
        Town town = new Town();
        Town kept = null;

        // ---- the words of the terms

        static Set<Integer> setOf(int bits) {
            Set<Integer> set = new TreeSet<>();
            for (int h = 0; h < 31; h++) {
                if ((bits >>> h) % 2 == 1) {
                    set.add(h);
                }
            }
            return set;
        }

        static int bitsOf(Set<Integer> set) {
            int bits = 0;
            for (int h : set) {
                bits += (int) Math.round(Math.pow(2, h));
            }
            return bits;
        }

        boolean names(int house) {
            return house >= 0 && house < houses.size();
        }

        boolean isSet(int bits) {
            return bits >= 0 && bits < 1 << houses.size();
        }

        void wayTo(int house, Set<Integer> shafts) {
            shafts.add(house);
            if (houses.get(house).parent() != NONE) {
                wayTo(houses.get(house).parent(), shafts);
            }
        }

        int wantsIn(Town t, int house) {
            House h = houses.get(house);
            if (t.hour < h.from() || t.hour >= h.to() || t.brakes.contains(house)) {
                return 0;
            }
            int feet = h.takes();
            if ((h.kind() == 'u' || h.kind() == 'x') && t.hour == h.from()) {
                feet *= 2;
            }
            if (h.kind() == 's' && t.worked.contains(house)) {
                feet -= 1;
            }
            return feet;
        }

        int goesIn(Town t, Set<Integer> set) {
            int feet = 0;
            Set<Integer> shafts = new TreeSet<>();
            for (int h : set) {
                if (wantsIn(t, h) != 0) {
                    feet += wantsIn(t, h);
                    wayTo(h, shafts);
                }
            }
            for (int s : shafts) {
                if (houses.get(s).kind() != 'x') {
                    feet += houses.get(s).loss() + (t.rain ? 1 : 0);
                }
            }
            return feet;
        }

        int hourIn(Town t) {
            Set<Integer> who = new TreeSet<>();
            Set<Integer> clocks = new TreeSet<>();
            for (int h = 0; h < houses.size(); h++) {
                if (wantsIn(t, h) > 0) {
                    who.add(h);
                    if (houses.get(h).kind() == 'c') {
                        clocks.add(h);
                    }
                }
            }
            int went;
            if (goesIn(t, clocks) > t.hangs) {
                went = t.hangs;
                t.lost += t.hangs;
                t.hangs = 0;
                t.down = true;
                t.worked = new TreeSet<>();
            } else {
                while (goesIn(t, who) > t.hangs) {
                    int last = NONE;
                    for (int h : who) {
                        last = clocks.contains(h) ? last : h;
                    }
                    who.remove(last);
                }
                went = goesIn(t, who);
                int sum = 0;
                int[] feet = new int[8];
                for (int h : who) {
                    feet[h] = wantsIn(t, h);
                    sum += feet[h];
                }
                for (int h : who) {
                    t.taken[h] += feet[h];
                }
                t.lost += went - sum;
                t.hangs -= went;
                t.worked = who;
            }
            t.hour++;
            return went;
        }

        int takenBy(Set<Integer> brakes, int hangs) {
            Town t = town.copy();
            t.brakes = brakes;
            t.hangs = hangs;
            while (t.hour < 9 && !t.down) {
                hourIn(t);
            }
            return t.takenByAll() - town.takenByAll();
        }

        int[] partsNow() {
            int[] parts = new int[8];
            int all = town.takenByAll();
            int depth = town.length - town.hangs;
            if (all == 0) {
                return parts;
            }
            List<Integer> order = new ArrayList<>();
            int left = depth;
            for (int h = 0; h < houses.size(); h++) {
                parts[h] = depth * town.taken[h] / all;
                left -= parts[h];
                order.add(h);
            }
            // a stable sort: of like rests the least number comes first
            order.sort((p, q) -> Integer.compare(depth * town.taken[q] % all, depth * town.taken[p] % all));
            for (int i = 0; i < left; i++) {
                parts[order.get(i)]++;
            }
            return parts;
        }

        int toldFor(int bits) {
            int feet = 0;
            Set<Integer> shafts = new TreeSet<>();
            for (int h : setOf(bits)) {
                feet += houses.get(h).takes();
                wayTo(h, shafts);
            }
            for (int s : shafts) {
                feet += houses.get(s).loss();
            }
            return feet;
        }

        boolean throughGoes(Set<Integer> set, int shaft) {
            Set<Integer> shafts = new TreeSet<>();
            for (int h : set) {
                wayTo(h, shafts);
            }
            return shafts.contains(shaft);
        }

        // ---- the calls

        int letters(long w) {
            StringBuilder come = new StringBuilder();
            boolean zero = false;
            for (int i = 0; i < 8; i++) {
                long code = (w >> 8 * i) & 0xff;
                if (code > 126 || zero && code != 0) {
                    return OUTSIDE;
                }
                zero = code == 0;
                if (!zero) {
                    come.append((char) code);
                }
            }
            if (page.length() + come.length() > 12) {
                return FULL;
            }
            page += come;
            return page.length();
        }

        int blank() {
            int had = page.length();
            page = "";
            return had;
        }

        /** The longest beginning of the page that is also the beginning of a HOUSE. */
        int fault() {
            for (int n = Math.min(6, page.length()); n > 0; n--) {
                // whatever HOUSE begins so, these letters end one
                if (isHouse(page.substring(0, n) + "h-0910".substring(n))) {
                    return n;
                }
            }
            return 0;
        }

        private boolean isHouse(String s) {
            String parents = "-01234567".substring(0, houses.size() + 1);
            return s.matches("[hcusx][-0-7][0-8][1-9][1-9][0-9]") && parents.indexOf(s.charAt(1)) >= 0
                && s.charAt(2) < s.charAt(3);
        }

        int house() {
            if (page.length() != 6 || fault() != 6 || town.hour > 0) {
                return STATE;
            }
            if (houses.size() == 8) {
                return FULL;
            }
            int parent = page.charAt(1) == '-' ? NONE : Character.getNumericValue(page.charAt(1));
            int[] d = new int[6];
            for (int i = 2; i < 6; i++) {
                d[i] = Character.getNumericValue(page.charAt(i));
            }
            houses.add(new House(page.charAt(0), parent, d[2], d[3], d[4], d[5]));
            town.houses = houses.size();
            page = "";
            return houses.size() - 1;
        }

        int about(int house, int what) {
            if (!names(house)) {
                return UNKNOWN;
            }
            if (what < 0 || what > 8) {
                return OUTSIDE;
            }
            House h = houses.get(house);
            int[] all = {"hcusx".indexOf(h.kind()), h.parent(), h.from(), h.to(), h.takes(), h.loss(),
                town.taken[house], town.owed[house], town.brakes.contains(house) ? 1 : 0};
            return all[what];
        }

        int as(int house, int kind) {
            if (!names(house)) {
                return UNKNOWN;
            }
            if (kind < 0 || kind > 4) {
                return OUTSIDE;
            }
            String[] whoIs = {"hcusx", "c", "ux", "s", "x"};
            return whoIs[kind].indexOf(houses.get(house).kind()) >= 0 ? house : NONE;
        }

        int length(int v) {
            if (v < 1 || v > 99) {
                return OUTSIDE;
            }
            if (town.hour >= 1) {
                return STATE;
            }
            int was = town.length;
            town.length = v;
            town.hangs = v;
            return was;
        }

        int brake(int house, boolean is) {
            if (!names(house)) {
                return UNKNOWN;
            }
            boolean had = is ? !town.brakes.add(house) : town.brakes.remove(house);
            return had ? 1 : 0;
        }

        int rain(boolean is) {
            int was = town.rain ? 1 : 0;
            town.rain = is;
            return was;
        }

        int wants(int house) {
            return names(house) ? wantsIn(town, house) : UNKNOWN;
        }

        int goes(int set) {
            return isSet(set) ? goesIn(town, setOf(set)) : OUTSIDE;
        }

        int hour() {
            return town.hour > 8 || town.down ? STATE : hourIn(town);
        }

        int worked() {
            return bitsOf(town.worked);
        }

        int part(int house) {
            return names(house) ? partsNow()[house] : UNKNOWN;
        }

        int night() {
            int depth = town.length - town.hangs;
            int[] parts = partsNow();
            for (int h = 0; h < 8; h++) {
                town.owed[h] = Math.min(town.owed[h] + parts[h], 999);
            }
            town.taken = new int[8];
            town.worked = new TreeSet<>();
            town.lost = 0;
            town.hour = 0;
            town.hangs = town.length;
            town.down = false;
            return depth;
        }

        int plan(int what) {
            if (what != 0 && what != 1) {
                return OUTSIDE;
            }
            int most = NONE;
            int best = 0;
            for (int fewest = 0; fewest <= houses.size(); fewest++) {
                for (int set = 0; set < 1 << houses.size(); set++) {
                    if (setOf(set).size() == fewest) {
                        int taken = takenBy(setOf(set), town.hangs);
                        best = taken > most ? set : best;
                        most = Math.max(most, taken);
                    }
                }
            }
            return what == 0 ? most : best;
        }

        int more(int feet) {
            if (feet < 0 || feet > 99) {
                return OUTSIDE;
            }
            return takenBy(town.brakes, town.hangs + feet) - takenBy(town.brakes, town.hangs);
        }

        int missing(int feet, int what) {
            if (feet < 1 || feet > 72 || what < 0 || what > 2) {
                return OUTSIDE;
            }
            List<Set<Integer>> found = new ArrayList<>();
            for (int bits = 0; bits < 1 << houses.size(); bits++) {
                int sum = 0;
                boolean all = true;
                for (int h : setOf(bits)) {
                    all &= town.hour >= houses.get(h).from() && town.hour < houses.get(h).to();
                    sum += houses.get(h).takes();
                }
                if (all && sum == feet) {
                    found.add(setOf(bits));
                }
            }
            if (what == 0 || found.isEmpty()) {
                return found.size();
            }
            Set<Integer> who = new TreeSet<>(found.get(0));
            for (Set<Integer> set : found) {
                if (what == 1) {
                    who.retainAll(set);
                } else {
                    who.addAll(set);
                }
            }
            return bitsOf(who);
        }

        int rest(int seed, int what) {
            if (seed < 0 || what < 0 || what > 3) {
                return OUTSIDE;
            }
            Town t = town.copy();
            BigInteger s = BigInteger.valueOf(seed);
            int downIn = NONE;
            while (t.hour < 9 && !t.down) {
                s = s.multiply(BigInteger.valueOf(1103515245)).add(BigInteger.valueOf(12345))
                    .mod(BigInteger.TWO.pow(31));
                t.rain = s.divide(BigInteger.valueOf(65536)).intValueExact() % 3 == 0;
                hourIn(t);
                downIn = t.down ? t.hour - 1 : NONE;
            }
            int[] all = {t.takenByAll() - town.takenByAll(), t.hangs, downIn, s.intValueExact()};
            return all[what];
        }

        int read(int set, int feet) {
            if (!isSet(set) || set == 0 || feet < 1 || feet > 199) {
                return OUTSIDE;
            }
            if (town.readings.size() == 8) {
                return FULL;
            }
            town.readings.add(new Reading(setOf(set), feet));
            return town.readings.size();
        }

        int wipe() {
            int were = town.readings.size();
            town.readings.clear();
            return were;
        }

        int leaks() {
            Set<Integer> set = new TreeSet<>();
            for (int h = 0; h < houses.size(); h++) {
                if (leak(h) > 0) {
                    set.add(h);
                }
            }
            return bitsOf(set);
        }

        int leak(int house) {
            if (!names(house)) {
                return UNKNOWN;
            }
            for (int e = 1; e <= 9; e++) {
                boolean all = true;
                for (Reading r : town.readings) {
                    all &= toldFor(bitsOf(r.set())) + (throughGoes(r.set(), house) ? e : 0) == r.feet();
                }
                if (all) {
                    return e;
                }
            }
            return NONE;
        }

        int look() {
            Set<Integer> leaks = setOf(leaks());
            int best = NONE;
            int fewest = Integer.MAX_VALUE;
            for (int bits = 1; bits < 1 << houses.size() && !leaks.isEmpty(); bits++) {
                int through = 0;
                for (int s : leaks) {
                    through += throughGoes(setOf(bits), s) ? 1 : 0;
                }
                int left = Math.max(through, leaks.size() - through);
                best = left < fewest ? bits : best;
                fewest = Math.min(fewest, left);
            }
            return best;
        }

        int image() {
            kept = town.copy();
            return town.hangs;
        }

        int restore() {
            if (kept == null) {
                return STATE;
            }
            town = kept.copy();
            houses = new ArrayList<>(houses.subList(0, town.houses));
            return town.hangs;
        }

        int count(int what) {
            if (what < 0 || what > 9) {
                return OUTSIDE;
            }
            int[] all = {houses.size(), town.length, town.hangs, town.hour, town.takenByAll(), town.lost,
                town.down ? 1 : 0, town.rain ? 1 : 0, town.readings.size(), page.length()};
            return all[what];
        }

        long digest() {
            List<Long> numbers = new ArrayList<>();
            for (int h = 0; h < houses.size(); h++) {
                for (int what = 0; what <= 8; what++) {
                    numbers.add((long) about(h, what));
                }
                numbers.add((long) wants(h));
                numbers.add((long) part(h));
                numbers.add((long) leak(h));
            }
            numbers.add((long) worked());
            numbers.add((long) goes((1 << houses.size()) - 1));
            numbers.add((long) plan(0));
            numbers.add((long) plan(1));
            numbers.add((long) more(9));
            numbers.add((long) leaks());
            numbers.add((long) look());
            for (char c : page.toCharArray()) {
                numbers.add((long) c);
            }
            for (int what = 0; what <= 9; what++) {
                numbers.add((long) count(what));
            }
            long h = 601;
            for (long n : numbers) {
                h = h * 31 + n;
            }
            return h;
        }
    }
}
