import java.math.BigInteger;

/** The boundary cases of promises 17 to 20: the plan, more feet, missing feet, the rest of a day. */
public final class BoundaryAheadTest extends Check {
    private static final BigInteger TIMES = BigInteger.valueOf(1103515245);
    private static final BigInteger AND = BigInteger.valueOf(12345);
    private static final BigInteger REST_BY = BigInteger.TWO.pow(31);

    public static void main(String[] args) throws Exception {
        runPromises(BoundaryAheadTest.class, 17, 20);
        finish("checks of boundaries, what would be");
    }

    private static void duePlan(String call, TownOnWeight x, int taken, int brakes) {
        long before = x.digest();
        due(call + ": plan(0)", x.plan(0), taken);
        due(call + ": plan(1)", x.plan(1), brakes);
        due(call + ": plan() changes nothing", x.digest(), before);
    }

    private static void dueMore(String call, TownOnWeight x, int feet, int taken) {
        long before = x.digest();
        due(call + ": more(" + feet + ")", x.more(feet), taken);
        due(call + ": more() changes nothing", x.digest(), before);
    }

    /** How many sets, who is in all, who is in some. */
    private static void dueMissing(TownOnWeight x, int feet, int many, int all, int some) {
        due("missing(" + feet + ", 0)", x.missing(feet, 0), many);
        due("missing(" + feet + ", 1)", x.missing(feet, 1), all);
        due("missing(" + feet + ", 2)", x.missing(feet, 2), some);
    }

    private static void dueRest(String call, TownOnWeight x, int seed, long... want) {
        long before = x.digest();
        for (int what = 0; what <= 3; what++) {
            due(call + ": rest(" + seed + ", " + what + ")", x.rest(seed, what), want[what]);
        }
        due(call + ": rest() changes nothing", x.digest(), before);
    }

    private static int seedBehind(int seed, int draws) {
        BigInteger s = BigInteger.valueOf(seed);
        for (int i = 0; i < draws; i++) {
            s = s.multiply(TIMES).add(AND).mod(REST_BY);
        }
        return s.intValueExact();
    }

    /** The SEED whose next is this one. */
    private static int seedAhead(int next) {
        return BigInteger.valueOf(next).subtract(AND).multiply(TIMES.modInverse(REST_BY)).mod(REST_BY).intValueExact();
    }

    // ---- promise 17

    static void p17_theDayIsOver() {
        TownOnWeight x = town("h-0920", "h-0930");
        hours(x, 8);
        duePlan("HOUR 8", x, 5, 0);
        x.hour();
        due("feet HANG", x.count(2), 15);
        duePlan("over", x, 0, 0);
        x.night();
        duePlan("the next morning", x, 45, 0);
    }

    static void p17_itIsDown() {
        TownOnWeight x = townOf(9, "c-0950", "h-0110");
        duePlan("HOUR 0", x, 6, 0);
        x.hour();
        duePlan("HOUR 1, 3 HANG", x, 0, 0);
        x.hour();
        due("DOWN", x.count(6), 1);
        duePlan("DOWN", x, 0, 0);
    }

    static void p17_nothingHangs() {
        TownOnWeight x = townOf(1, "h-0910", "h-0910");
        duePlan("one foot", x, 1, 0);
        x.hour();
        duePlan("none", x, 0, 0);
    }

    static void p17_noHouses() {
        duePlan("no HOUSES", new TownOnWeight(), 0, 0);
    }

    static void p17_noBrakesIfNoneTakesMore() {
        duePlan("any would do", townOf(4, "h-0120", "h-0120", "h-0120"), 4, 0);
        TownOnWeight one = townOf(9, "h-0910");
        duePlan("all is TAKEN", one, 9, 0);
    }

    static void p17_ofLikeOnesTheFewestThenTheLeastBits() {
        // without the first two the third takes 3 and 3; without the third they take 1 and 5
        duePlan("{2} goes ahead of {0, 1}", townOf(8, "h-1250", "h-0110", "h-0231"), 6, 4);
        duePlan("{0} goes ahead of {1}", townOf(19, "h-0119", "h-0119", "h-0190"), 10, 1);
        duePlan("{1} goes ahead of {2}", townOf(20, "h-0110", "h-0119", "h-0119", "h-0190"), 11, 2);
        // two of the first three: each loses 9 for 1
        duePlan("{0, 1} of three", townOf(19, "h-0119", "h-0119", "h-0119", "h-0190"), 10, 3);
    }

    static void p17_fromOneMoreFootOn() {
        // 10 feet: the first alone, or with its BRAKE the second, which takes 1 more
        duePlan("like ones", townOf(10, "h-0191", "h-0190"), 9, 0);
        duePlan("one more", townOf(10, "h-0182", "h-0190"), 9, 1);
    }

    static void p17_allButOneHaveBrakes() {
        String[] last = {"h-0919", "h-0919", "h-0919", "h-0919", "h-0919", "h-0919", "h-0919", "h-0990"};
        duePlan("the last alone", townOf(81, last), 81, 127);
        String[] first = {"h-0990", "c-0919", "c-0919", "c-0919", "c-0919", "c-0919", "c-0919", "c-0919"};
        duePlan("the first alone", townOf(81, first), 81, 254);
    }

    static void p17_clocksMayHaveBrakes() {
        duePlan("just one", townOf(3, "c-0120", "c-0120"), 2, 1);
        duePlan("none is needed", townOf(4, "c-0120", "c-0120"), 4, 0);
    }

    static void p17_brakesAsTheyAreDoNotCount() {
        TownOnWeight x = townOf(17, "h-0159", "h-1940");
        duePlan("no BRAKES", x, 16, 1);
        x.brake(1, true);
        duePlan("BRAKES", x, 16, 1);
        dueOfEach("BRAKE", x, 8, 0, 1);
    }

    static void p17_rainAsItIs() {
        TownOnWeight x = townOf(18, "h-0920");
        duePlan("without RAIN", x, 18, 0);
        x.rain(true);
        duePlan("in RAIN, 6 HOURS", x, 12, 0);
    }

    static void p17_fromNowOn() {
        TownOnWeight x = townOf(99, "u-0940", "s-0920");
        duePlan("HOUR 0", x, 40 + 10, 0);
        x.hour();
        duePlan("HOUR 1", x, 32 + 8, 0);
        hours(x, 7);
        duePlan("HOUR 8", x, 4 + 1, 0);
    }

    static void p17_ofWhatHangsNow() {
        TownOnWeight x = townOf(89, "h-0199", "h-0199", "h-0199", "h-0199", "h-1259", "h-1940");
        due("hour()", x.hour(), 72);
        // of 17 feet the fifth would let 14 go for 5; without it the sixth takes 4 four times
        duePlan("17 feet of 89", x, 16, 16);
    }

    static void p17_whatIs0Or1() {
        TownOnWeight x = town("h-0910");
        refused("plan(-1)", x, OUTSIDE, t -> t.plan(-1));
        refused("plan(2)", x, OUTSIDE, t -> t.plan(2));
        for (int far : FAR) {
            refused("plan(" + far + ")", x, OUTSIDE, t -> t.plan(far));
        }
        hours(x, 9);
        refused("plan(2) when the DAY is over", x, OUTSIDE, t -> t.plan(2));
    }

    // ---- promise 18

    static void p18_feetFrom0To99() {
        TownOnWeight x = townOf(10, "h-0910");
        dueMore("none", x, 0, 0);
        dueMore("9 are enough as it is", x, 99, 0);
        TownOnWeight y = townOf(1, "u-0990", "h-0990");
        dueMore("all that can come: 99 of 100", y, 99, 18 + 9 + 72);
        refused("more(-1)", x, OUTSIDE, t -> t.more(-1));
        refused("more(100)", x, OUTSIDE, t -> t.more(100));
        for (int far : FAR) {
            refused("more(" + far + ")", x, OUTSIDE, t -> t.more(far));
        }
    }

    static void p18_beyondLength() {
        TownOnWeight x = townOf(99, "h-0999");
        dueMore("107 feet", x, 8, 0);
        dueMore("108 feet", x, 9, 9);
        dueMore("161 feet", x, 62, 27);
        dueMore("162 feet", x, 63, 36);
        dueMore("198 feet", x, 99, 36);
    }

    static void p18_justEnough() {
        TownOnWeight x = townOf(10, "h-0940");
        dueMore("11 feet", x, 1, 0);
        dueMore("12 feet", x, 2, 4);
        dueMore("15 feet", x, 5, 4);
        dueMore("16 feet", x, 6, 8);
    }

    static void p18_whatItTakesLessByMore() {
        // 13 feet: 4, 4, 4; 14 feet: all at once for 5
        dueMore("one more", townOf(13, "h-0940", "h-0119"), 1, 5 - 12);
    }

    static void p18_byWhichItIsNotDown() {
        TownOnWeight x = townOf(5, "c-0990");
        dueMore("8 feet", x, 3, 0);
        dueMore("9 feet", x, 4, 9);
        dueMore("17 feet", x, 12, 9);
        dueMore("18 feet", x, 13, 18);
    }

    static void p18_noHourComes() {
        TownOnWeight over = townOf(8, "h-0910");
        hours(over, 8);
        dueMore("HOUR 8, nothing HANGS", over, 1, 1);
        over.hour();
        dueMore("over", over, 99, 0);
        TownOnWeight down = townOf(5, "c-0990");
        down.hour();
        dueMore("DOWN", down, 99, 0);
        dueMore("no HOUSES", new TownOnWeight(), 99, 0);
    }

    static void p18_nothingHangsButAnHourComes() {
        TownOnWeight x = townOf(1, "h-0910");
        x.hour();
        dueMore("none", x, 0, 0);
        dueMore("one", x, 1, 1);
        dueMore("eight", x, 8, 8);
        dueMore("nine", x, 9, 8);
    }

    static void p18_brakesAndRainAsTheyAre() {
        TownOnWeight x = townOf(5, "h-0120", "h-0150");
        dueMore("without", x, 2, 5);
        x.brake(0, true);
        dueMore("with a BRAKE it takes 5 already", x, 2, 0);
        x.rain(true);
        dueMore("in RAIN, 6 feet", x, 1, 5);
        x.brake(1, true);
        dueMore("all have BRAKES", x, 99, 0);
    }

    // ---- promise 19

    static void p19_feetFrom1To72() {
        TownOnWeight x = town(eight("h-0990"));
        dueMissing(x, 72, 1, 255, 255);
        dueMissing(x, 71, 0, 0, 0);
        dueMissing(x, 63, 8, 0, 255);
        dueMissing(x, 36, 70, 0, 255);
        dueMissing(x, 9, 8, 0, 255);
        dueMissing(x, 1, 0, 0, 0);
        TownOnWeight one = town("h-0910");
        dueMissing(one, 1, 1, 1, 1);
        dueMissing(one, 2, 0, 0, 0);
        for (int feet : new int[] {0, -1, 73, 74, Integer.MIN_VALUE, Integer.MAX_VALUE}) {
            for (int what = 0; what <= 2; what++) {
                int asked = what;
                refused("missing(" + feet + ", " + what + ")", x, OUTSIDE, t -> t.missing(feet, asked));
            }
        }
    }

    static void p19_whatIs0To2() {
        TownOnWeight x = town("h-0910");
        refused("missing(1, -1)", x, OUTSIDE, t -> t.missing(1, -1));
        refused("missing(1, 3)", x, OUTSIDE, t -> t.missing(1, 3));
        refused("missing(0, 3)", x, OUTSIDE, t -> t.missing(0, 3));
        refused("missing(72, 3) where there are none", x, OUTSIDE, t -> t.missing(72, 3));
        for (int far : FAR) {
            refused("missing(1, " + far + ")", x, OUTSIDE, t -> t.missing(1, far));
        }
    }

    static void p19_fromFromOnAheadOfTo() {
        TownOnWeight x = townOf(99, "h-3530", "h-0130", "h-8930");
        int[] open = {2, 0, 0, 1, 1, 0, 0, 0, 4, 0};
        for (int hour = 0; hour <= 9; hour++) {
            due("HOUR", x.count(3), hour);
            dueMissing(x, 3, open[hour] == 0 ? 0 : 1, open[hour], open[hour]);
            x.hour();
        }
    }

    static void p19_withBrakesOrWithout() {
        TownOnWeight x = town("h-0910", "h-0910");
        x.brake(0, true);
        dueMissing(x, 1, 2, 0, 3);
        dueMissing(x, 2, 1, 3, 3);
        x.brake(1, true);
        dueMissing(x, 2, 1, 3, 3);
    }

    static void p19_takesWhateverItWants() {
        TownOnWeight x = town("u-0920", "x-0930", "s-0940");
        dueMissing(x, 2, 1, 1, 1);
        dueMissing(x, 3, 1, 2, 2);
        dueMissing(x, 4, 1, 4, 4);
        x.hour();
        due("wants(2)", x.wants(2), 3);
        dueMissing(x, 4, 1, 4, 4);
        dueMissing(x, 9, 1, 7, 7);
        TownOnWeight one = town("s-0910");
        one.hour();
        due("wants(0)", one.wants(0), 0);
        dueMissing(one, 1, 1, 1, 1);
    }

    static void p19_inAllAndInSome() {
        TownOnWeight x = town("h-0910", "h-0920", "h-0930", "h-0950");
        // 3: {2}, {0, 1}; 6: {0, 1, 2}, {0, 3}; 8: {2, 3}, {0, 1, 3}; 10: {1, 2, 3}
        dueMissing(x, 3, 2, 0, 7);
        dueMissing(x, 6, 2, 1, 15);
        dueMissing(x, 8, 2, 8, 15);
        dueMissing(x, 10, 1, 14, 14);
        dueMissing(x, 11, 1, 15, 15);
        dueMissing(x, 12, 0, 0, 0);
    }

    static void p19_noHourComes() {
        TownOnWeight over = town("h-0930");
        hours(over, 8);
        dueMissing(over, 3, 1, 1, 1);
        over.hour();
        dueMissing(over, 3, 0, 0, 0);
        TownOnWeight down = townOf(2, "c-0130", "h-1240");
        down.hour();
        due("DOWN", down.count(6), 1);
        dueMissing(down, 4, 1, 2, 2);
        dueMissing(down, 3, 0, 0, 0);
        dueMissing(new TownOnWeight(), 1, 0, 0, 0);
    }

    // ---- promise 20

    static void p20_seedsFrom0ToTheGreatest() {
        TownOnWeight x = townOf(99, "x-0910");
        // in the SHAFT of a SECRET nothing is LOST, RAIN or not
        for (int seed : new int[] {0, 1, 2, 65535, 65536, 1 << 30, Integer.MAX_VALUE - 1, Integer.MAX_VALUE}) {
            dueRest("a SECRET", x, seed, 10, 89, NONE, seedBehind(seed, 9));
        }
        for (int seed : new int[] {-1, -2, Integer.MIN_VALUE, Integer.MIN_VALUE + 1}) {
            for (int what = 0; what <= 3; what++) {
                int asked = what;
                refused("rest(" + seed + ", " + what + ")", x, OUTSIDE, t -> t.rest(seed, asked));
            }
        }
    }

    static void p20_whatIs0To3() {
        TownOnWeight x = town("h-0910");
        refused("rest(0, -1)", x, OUTSIDE, t -> t.rest(0, -1));
        refused("rest(0, 4)", x, OUTSIDE, t -> t.rest(0, 4));
        refused("rest(-1, 4)", x, OUTSIDE, t -> t.rest(-1, 4));
        for (int far : FAR) {
            refused("rest(0, " + far + ")", x, OUTSIDE, t -> t.rest(0, far));
        }
        hours(x, 9);
        refused("rest(0, 4) when the DAY is over", x, OUTSIDE, t -> t.rest(0, 4));
        refused("rest(-1, 3) when the DAY is over", x, OUTSIDE, t -> t.rest(-1, 3));
    }

    static void p20_rainIfADrawOf3Is0() {
        int[] next = {0, 65535, 65536, 131071, 131072, 196607, 196608, 262143, 262144,
            32766 * 65536 - 1, 32766 * 65536, 32767 * 65536 - 1, 32767 * 65536, Integer.MAX_VALUE};
        int[] rain = {1, 1, 0, 0, 0, 0, 1, 1, 0, 0, 1, 1, 0, 0};
        TownOnWeight x = townOf(99, "h-0911");
        hours(x, 8);
        for (int i = 0; i < next.length; i++) {
            dueRest("the next SEED " + next[i], x, seedAhead(next[i]), 1, 81 - rain[i], NONE, next[i]);
        }
    }

    static void p20_onlyHoursThatAreLeft() {
        TownOnWeight x = townOf(99, "x-0910");
        for (int hour = 0; hour <= 9; hour++) {
            int left = 9 - hour;
            int takes = hour == 0 ? 10 : left;
            dueRest("HOUR " + hour, x, 7, takes, 89, NONE, seedBehind(7, left));
            x.hour();
        }
    }

    static void p20_theDayIsOver() {
        TownOnWeight x = town("h-0920");
        hours(x, 9);
        for (int seed : new int[] {0, 5, Integer.MAX_VALUE}) {
            dueRest("over", x, seed, 0, 42, NONE, seed);
        }
    }

    static void p20_itIsDownAlready() {
        TownOnWeight x = townOf(5, "c-0990");
        x.hour();
        for (int seed : new int[] {0, 5, Integer.MAX_VALUE}) {
            dueRest("DOWN", x, seed, 0, 0, NONE, seed);
        }
    }

    static void p20_downFromTheFirstHourToTheLast() {
        for (int hour = 0; hour <= 8; hour++) {
            TownOnWeight x = townOf(1, "c-" + hour + "920");
            dueRest("DOWN in HOUR " + hour, x, 3, 0, 0, hour, seedBehind(3, hour + 1));
        }
    }

    static void p20_downByRainAlone() {
        int rainy = seedAhead(0);
        int dry = seedAhead(65536);
        TownOnWeight three = townOf(3, "c-8930");
        hours(three, 8);
        dueRest("3 of 3", three, dry, 3, 0, NONE, 65536);
        dueRest("4 of 3 in RAIN", three, rainy, 0, 0, 8, 0);
        TownOnWeight four = townOf(4, "c-8930");
        hours(four, 8);
        dueRest("3 of 4", four, dry, 3, 1, NONE, 65536);
        dueRest("4 of 4 in RAIN", four, rainy, 3, 0, NONE, 0);
    }

    static void p20_rainAsItIsDoesNotCount() {
        int rainy = seedAhead(0);
        int dry = seedAhead(65536);
        TownOnWeight x = townOf(99, "h-0910");
        hours(x, 8);
        x.rain(true);
        dueRest("in RAIN, dry", x, dry, 1, 90, NONE, 65536);
        dueRest("in RAIN, rainy", x, rainy, 1, 89, NONE, 0);
        due("RAIN is as it was", x.count(7), 1);
        x.rain(false);
        dueRest("no RAIN, rainy", x, rainy, 1, 89, NONE, 0);
        due("RAIN is as it was", x.count(7), 0);
    }

    static void p20_brakesAsTheyAre() {
        TownOnWeight x = townOf(9, "c-0990", "x-0910");
        x.brake(0, true);
        dueRest("a BRAKE", x, 11, 9, 0, NONE, seedBehind(11, 9));
        x.brake(0, false);
        x.brake(1, true);
        int hours = seedBehind(11, 1) / 65536 % 3 == 0 ? 0 : 1;
        dueRest("the other", x, 11, 9 * hours, 0, hours, seedBehind(11, hours + 1));
    }

    static void p20_noHouses() {
        dueRest("no HOUSES", new TownOnWeight(), 9, 0, 60, NONE, seedBehind(9, 9));
    }

    static void p20_storingGoesOnFromTheHourAhead() {
        TownOnWeight x = townOf(99, "x-0910", "s00920");
        hours(x, 8);
        int dry = seedAhead(65536);
        int hangs = x.count(2);
        dueRest("HOUR 8", x, dry, 1 + 1, hangs - 2, NONE, 65536);
    }
}
