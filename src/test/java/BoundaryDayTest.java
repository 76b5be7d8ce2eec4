/** The boundary cases of promises 11 to 16: what is wanted, what goes, hours, parts, nights. */
public final class BoundaryDayTest extends Check {
    public static void main(String[] args) throws Exception {
        runPromises(BoundaryDayTest.class, 11, 16);
        finish("checks of boundaries, a day");
    }

    /** One house of a kind, and what it wants in each HOUR when it always works. */
    private static void dueWants(char kind, int from, int to, int takes, int first, int then) {
        TownOnWeight x = townOf(99, "" + kind + '-' + from + to + takes + '0');
        for (int hour = 0; hour <= 9; hour++) {
            int want = hour < from || hour >= to ? 0 : hour == from ? first : then;
            due("wants(0) of " + kind + " from " + from + " to " + to + " in HOUR " + hour, x.wants(0), want);
            x.hour();
        }
    }

    /** An hour of a town by which these feet go and these work, and whether it is DOWN then. */
    private static void dueHour(String call, TownOnWeight x, int feet, int worked, int down) {
        due(call + ": hour()", x.hour(), feet);
        due(call + ": worked()", x.worked(), worked);
        due(call + ": DOWN", x.count(6), down);
    }

    // ---- promise 11

    static void p11_fromFromOnAheadOfTo() {
        for (int from = 0; from <= 8; from++) {
            for (int to = from + 1; to <= 9; to++) {
                dueWants('h', from, to, 3, 3, 3);
                dueWants('c', from, to, 3, 3, 3);
            }
        }
    }

    static void p11_hungryTwiceInHourFromAlone() {
        for (int from = 0; from <= 8; from++) {
            for (int to = from + 1; to <= 9; to++) {
                dueWants('u', from, to, 3, 6, 3);
                dueWants('x', from, to, 3, 6, 3);
            }
        }
    }

    static void p11_storingOneLessIfItWorkedInTheHourAhead() {
        for (int from = 0; from <= 8; from++) {
            for (int to = from + 1; to <= 9; to++) {
                dueWants('s', from, to, 3, 3, 2);
            }
        }
    }

    static void p11_leastAndGreatestWants() {
        dueWants('h', 0, 9, 1, 1, 1);
        dueWants('u', 0, 9, 1, 2, 1);
        dueWants('s', 0, 9, 2, 2, 1);
        TownOnWeight x = townOf(99, "u-0990", "x-0990", "s-0990", "c-0990", "h-0990");
        int[] first = {18, 18, 9, 9, 9};
        int[] then = {9, 9, 8, 9, 9};
        for (int h = 0; h < 5; h++) {
            due("wants(" + h + ") in HOUR 0", x.wants(h), first[h]);
        }
        x.hour();
        for (int h = 0; h < 5; h++) {
            due("wants(" + h + ") in HOUR 1", x.wants(h), then[h]);
        }
    }

    static void p11_storingOfOneFootWantsNothingThenOne() {
        TownOnWeight x = town("s-0910");
        for (int hour = 0; hour <= 8; hour++) {
            due("wants(0) in HOUR " + hour, x.wants(0), 1 - hour % 2);
            due("hour() " + hour, x.hour(), 1 - hour % 2);
            due("worked() behind HOUR " + hour, x.worked(), 1 - hour % 2);
        }
        due("TAKEN", x.about(0, 6), 5);
    }

    static void p11_storingThatDidNotWorkWantsAll() {
        TownOnWeight braked = town("s-0930");
        braked.hour();
        braked.brake(0, true);
        due("wants(0) with a BRAKE", braked.wants(0), 0);
        braked.hour();
        braked.brake(0, false);
        due("wants(0) behind an HOUR with a BRAKE", braked.wants(0), 3);
        TownOnWeight stopped = townOf(5, "h-1240", "s-0930");
        due("hour() of both", stopped.hour(), 3);
        due("wants(1) as it worked", stopped.wants(1), 2);
        due("hour() in which both stop", stopped.hour(), 0);
        due("wants(1) as it stopped", stopped.wants(1), 3);
        TownOnWeight alone = townOf(2, "s-0930");
        due("hour() in which it stops", alone.hour(), 0);
        due("wants(0) as it stopped", alone.wants(0), 3);
    }

    static void p11_storingByTheNextDay() {
        TownOnWeight x = town("s-0930");
        hours(x, 9);
        due("it worked in HOUR 8", x.worked(), 1);
        x.night();
        due("wants(0) in HOUR 0 of the next DAY", x.wants(0), 3);
        due("hour()", x.hour(), 3);
        due("wants(0) in HOUR 1", x.wants(0), 2);
    }

    static void p11_hungryThatDidNotWorkInHourFrom() {
        for (String house : new String[] {"u-1930", "x-1930"}) {
            TownOnWeight x = town(house);
            x.hour();
            x.brake(0, true);
            due("wants(0) with a BRAKE in HOUR FROM", x.wants(0), 0);
            x.hour();
            x.brake(0, false);
            due("wants(0) in the HOUR behind it", x.wants(0), 3);
        }
    }

    static void p11_aBrakeWantsNothing() {
        TownOnWeight x = town("h-0930", "c-0930", "u-0930", "s-0930", "x-0930");
        for (int h = 0; h < 5; h++) {
            x.brake(h, true);
        }
        for (int hour = 0; hour <= 8; hour++) {
            for (int h = 0; h < 5; h++) {
                due("wants(" + h + ") in HOUR " + hour, x.wants(h), 0);
            }
            x.hour();
        }
        x.brake(1, false);
        due("wants(1) when the DAY is over", x.wants(1), 0);
        x.night();
        due("wants(0) on the next DAY", x.wants(0), 0);
        due("wants(1) on the next DAY", x.wants(1), 3);
    }

    static void p11_theDayIsOverOrItIsDown() {
        TownOnWeight over = town("h-8930");
        hours(over, 8);
        due("wants(0) in HOUR 8", over.wants(0), 3);
        over.hour();
        due("wants(0) when the DAY is over", over.wants(0), 0);
        TownOnWeight down = townOf(2, "c-0130", "u-1240");
        due("hour() by which it is DOWN", down.hour(), 2);
        due("wants(0), its HOURS are over", down.wants(0), 0);
        due("wants(1), as the HOUR is", down.wants(1), 8);
    }

    static void p11_housesThatAreThere() {
        TownOnWeight x = town("h-0910", "h-0920");
        due("wants(0)", x.wants(0), 1);
        due("wants(1)", x.wants(1), 2);
        refused("wants(2)", x, UNKNOWN, t -> t.wants(2));
        TownOnWeight full = fullTown();
        due("wants(7)", full.wants(7), 1);
        for (int h : WRONG_HOUSES) {
            refused("wants(" + h + ")", full, UNKNOWN, t -> t.wants(h));
        }
        hours(full, 9);
        refused("wants(8) when the DAY is over", full, UNKNOWN, t -> t.wants(8));
    }

    // ---- promise 12

    static void p12_setsFromNoneToAll() {
        TownOnWeight none = new TownOnWeight();
        due("goes(0) of no HOUSES", none.goes(0), 0);
        refused("goes(1) of no HOUSES", none, OUTSIDE, t -> t.goes(1));
        TownOnWeight x = town("h-0910", "h-0920", "h-0940");
        for (int set = 0; set < 8; set++) {
            due("goes(" + set + ")", x.goes(set), set);
        }
        refused("goes(8)", x, OUTSIDE, t -> t.goes(8));
        refused("goes(9)", x, OUTSIDE, t -> t.goes(9));
        refused("goes(-1)", x, OUTSIDE, t -> t.goes(-1));
        TownOnWeight full = fullTown();
        due("goes(255)", full.goes(255), 8);
        refused("goes(256)", full, OUTSIDE, t -> t.goes(256));
        for (int far : FAR) {
            refused("goes(" + far + ")", full, OUTSIDE, t -> t.goes(far));
        }
    }

    static void p12_eachShaftOnce() {
        TownOnWeight x = town("h-0911", "h00912", "h10914", "h10918");
        due("goes(1)", x.goes(1), 1 + 1);
        due("goes(2)", x.goes(2), 1 + 3);
        due("goes(4)", x.goes(4), 1 + 7);
        due("goes(8)", x.goes(8), 1 + 11);
        due("goes(12)", x.goes(12), 2 + 15);
        due("goes(15)", x.goes(15), 4 + 15);
    }

    static void p12_rainIsOneMoreForEachShaftOnTheWays() {
        TownOnWeight x = town("h-0910", "h00919", "h-0915");
        x.rain(true);
        due("goes(0)", x.goes(0), 0);
        due("goes(1)", x.goes(1), 1 + 1);
        due("goes(2)", x.goes(2), 1 + 1 + 10);
        due("goes(3)", x.goes(3), 2 + 1 + 10);
        due("goes(7)", x.goes(7), 3 + 1 + 10 + 6);
        x.rain(false);
        due("goes(7) without", x.goes(7), 3 + 0 + 9 + 5);
    }

    static void p12_nothingIsLostInTheShaftOfASecret() {
        TownOnWeight x = town("x-0919", "h00919", "u00915");
        due("goes(1)", x.goes(1), 2);
        due("goes(2), through it", x.goes(2), 1 + 9);
        due("goes(4), of a HUNGRY", x.goes(4), 2 + 5);
        x.rain(true);
        due("goes(1) in RAIN", x.goes(1), 2);
        due("goes(2) in RAIN", x.goes(2), 1 + 10);
    }

    static void p12_whoWantsNothingIsPassedOver() {
        TownOnWeight x = town("h-1919", "h00915", "s-0917");
        due("goes(1), ahead of FROM", x.goes(1), 0);
        due("goes(2), the way is there all the same", x.goes(2), 1 + 9 + 5);
        due("goes(4)", x.goes(4), 8);
        x.hour();
        due("goes(4), a STORING of one foot", x.goes(4), 0);
        x.rain(true);
        due("goes(4) in RAIN", x.goes(4), 0);
        x.brake(1, true);
        due("goes(2), with a BRAKE", x.goes(2), 0);
        due("goes(1), in HOUR FROM", x.goes(1), 1 + 10);
        due("goes(7)", x.goes(7), 1 + 10);
    }

    static void p12_moreThanHangs() {
        TownOnWeight x = townOf(1, eight("u-0999"));
        due("goes(255)", x.goes(255), 8 * 27);
        x.rain(true);
        due("goes(255) in RAIN", x.goes(255), 8 * 28);
    }

    static void p12_theDayIsOver() {
        TownOnWeight x = town("h-0911");
        hours(x, 8);
        due("goes(1) in HOUR 8", x.goes(1), 2);
        x.hour();
        due("goes(1) when the DAY is over", x.goes(1), 0);
        refused("goes(2) when the DAY is over", x, OUTSIDE, t -> t.goes(2));
    }

    static void p12_itIsDown() {
        TownOnWeight x = townOf(2, "c-0131", "h00941");
        x.hour();
        due("it is DOWN", x.count(6), 1);
        due("goes(3), as the HOUR is", x.goes(3), 4 + 1 + 1);
    }

    // ---- promise 13

    static void p13_justWhatHangsAndOneMore() {
        dueHour("7 of 8", townOf(8, "h-0940", "h-0921"), 7, 3, 0);
        dueHour("7 of 7", townOf(7, "h-0940", "h-0921"), 7, 3, 0);
        dueHour("7 of 6", townOf(6, "h-0940", "h-0921"), 4, 1, 0);
        dueHour("4 of 4", townOf(4, "h-0940", "h-0921"), 4, 1, 0);
        dueHour("4 of 3", townOf(3, "h-0940", "h-0921"), 0, 0, 0);
    }

    static void p13_asLongAsMoreGoesTheGreatestNumberStops() {
        String[] houses = {"h-0920", "h-0930", "h-0910", "c-0940"};
        dueHour("10 of 10", townOf(10, houses), 10, 15, 0);
        dueHour("10 of 9", townOf(9, houses), 9, 11, 0);
        dueHour("10 of 8", townOf(8, houses), 6, 9, 0);
        dueHour("10 of 6", townOf(6, houses), 6, 9, 0);
        dueHour("10 of 5", townOf(5, houses), 4, 8, 0);
        dueHour("10 of 4", townOf(4, houses), 4, 8, 0);
        dueHour("10 of 3", townOf(3, houses), 3, 0, 1);
    }

    static void p13_whoStoppedDoesNotComeBack() {
        dueHour("the third would fit", townOf(2, "h-0910", "h-0990", "h-0910"), 1, 1, 0);
    }

    static void p13_noClockStops() {
        dueHour("the last is a CLOCK", townOf(8, "h-0920", "h-0930", "c-0940"), 6, 5, 0);
        dueHour("the first is a CLOCK", townOf(8, "c-0940", "h-0930", "h-0920"), 7, 3, 0);
        dueHour("all stop but the CLOCK between", townOf(3, "h-0920", "c-0930", "h-0910"), 3, 2, 0);
        dueHour("all other KINDS stop", townOf(1, "h-0910", "u-0910", "s-0910", "x-0910", "c-0910"), 1, 16, 0);
    }

    static void p13_clocksAloneJustWhatHangsAndOneMore() {
        dueHour("7 of 7", townOf(7, "c-0930", "c-0931"), 7, 3, 0);
        dueHour("7 of 6", townOf(6, "c-0930", "c-0931"), 6, 0, 1);
        TownOnWeight rain = townOf(5, "c-0931");
        rain.rain(true);
        dueHour("5 of 5 in RAIN", rain, 5, 1, 0);
        TownOnWeight flood = townOf(4, "c-0931");
        flood.rain(true);
        dueHour("5 of 4 in RAIN", flood, 4, 0, 1);
    }

    static void p13_theWaysToClocksCountWhenOthersStop() {
        dueHour("all 6", townOf(6, "h-0921", "c00930"), 6, 3, 0);
        dueHour("6 of 5: 4 by the CLOCK", townOf(5, "h-0921", "c00930"), 4, 2, 0);
        dueHour("4 of 4", townOf(4, "h-0921", "c00930"), 4, 2, 0);
        dueHour("4 of 3", townOf(3, "h-0921", "c00930"), 3, 0, 1);
        dueHour("3 of 3 through a SECRET", townOf(3, "x-0929", "c00930"), 3, 2, 0);
    }

    static void p13_whenItIsDownNobodyWorks() {
        TownOnWeight x = townOf(8, "h-0910", "c-0990", "c-0910");
        dueHour("the first would fit", x, 8, 0, 1);
        dueCounts("all that HUNG is LOST", x, 3, 8, 0, 1, 0, 8, 1);
        dueOfEach("TAKEN", x, 6, 0, 0, 0);
        refused("hour() when it is DOWN", x, STATE, TownOnWeight::hour);
    }

    static void p13_whatWasTakenAndLostAheadStays() {
        TownOnWeight x = townOf(9, "c-0931");
        due("hour() 0", x.hour(), 4);
        due("hour() 1", x.hour(), 4);
        due("hour() 2, by which it is DOWN", x.hour(), 1);
        dueCounts("DOWN", x, 1, 9, 0, 3, 6, 3, 1);
    }

    static void p13_nothingHangs() {
        TownOnWeight x = townOf(1, "h-0910", "c-3910");
        dueHour("HOUR 0", x, 1, 1, 0);
        dueHour("HOUR 1, in which the HOUSE stops", x, 0, 0, 0);
        dueHour("HOUR 2", x, 0, 0, 0);
        due("nothing HANGS", x.count(2), 0);
        dueHour("HOUR 3, in which the CLOCK can't", x, 0, 0, 1);
        due("HOUR 4 in any case", x.count(3), 4);
        refused("hour() when it is DOWN", x, STATE, TownOnWeight::hour);
    }

    static void p13_clocksThatWantNothing() {
        TownOnWeight x = townOf(1, "c-0990", "c-1290");
        x.brake(0, true);
        dueHour("a BRAKE, and ahead of FROM", x, 0, 0, 0);
        due("all HANG", x.count(2), 1);
        dueHour("HOUR FROM", x, 1, 0, 1);
    }

    static void p13_nineHoursAndNoTenth() {
        TownOnWeight x = town("h-0910");
        for (int hour = 0; hour <= 8; hour++) {
            due("HOUR", x.count(3), hour);
            due("hour() " + hour, x.hour(), 1);
        }
        due("the DAY is over", x.count(3), 9);
        refused("hour() when the DAY is over", x, STATE, TownOnWeight::hour);
        due("night()", x.night(), 9);
        due("hour() of the next DAY", x.hour(), 1);
    }

    static void p13_downInTheLastHour() {
        TownOnWeight x = townOf(8, "c-8990");
        hours(x, 8);
        dueHour("HOUR 8", x, 8, 0, 1);
        due("the DAY is over", x.count(3), 9);
        refused("hour() when both", x, STATE, TownOnWeight::hour);
    }

    static void p13_whatIsTakenAndWhatIsLost() {
        TownOnWeight x = townOf(99, "u-0942", "s00931", "x10929", "c20910");
        x.rain(true);
        due("hour()", x.hour(), 8 + 3 + 4 + 1 + 3 + 2 + 1);
        dueOfEach("TAKEN", x, 6, 8, 3, 4, 1);
        dueCounts("HOUR 1", x, 4, 99, 77, 1, 16, 6, 0);
        due("hour()", x.hour(), 4 + 2 + 2 + 1 + 3 + 2 + 1);
        dueOfEach("TAKEN", x, 6, 12, 5, 6, 2);
        dueCounts("HOUR 2", x, 4, 99, 62, 2, 25, 12, 0);
    }

    static void p13_whatHangsIsAllOf99() {
        TownOnWeight x = townOf(99, "u-0990", "u-0990", "u-0990", "u-0990", "u-0990", "c-0990");
        dueHour("99 of 99", x, 99, 63, 0);
        due("nothing HANGS", x.count(2), 0);
    }

    // ---- promise 14

    static void p14_noneInTheMorning() {
        TownOnWeight x = town("h-0910");
        due("worked() in HOUR 0", x.worked(), 0);
        x.hour();
        due("worked() in HOUR 1", x.worked(), 1);
        x.night();
        due("worked() in HOUR 0 of the next DAY", x.worked(), 0);
    }

    static void p14_nobody() {
        TownOnWeight x = town("h-0110", "h-2310");
        x.hour();
        due("worked() in HOUR 1", x.worked(), 1);
        x.hour();
        due("worked() when nobody WANTS", x.worked(), 0);
        x.hour();
        due("worked() in HOUR 3", x.worked(), 2);
        TownOnWeight down = townOf(9, "c-0150", "c-1250");
        down.hour();
        due("worked() ahead", down.worked(), 1);
        down.hour();
        due("worked() when it is DOWN", down.worked(), 0);
        TownOnWeight stopped = townOf(1, "h-0920");
        stopped.hour();
        due("worked() when all stop", stopped.worked(), 0);
    }

    static void p14_allEightInTheLastHour() {
        TownOnWeight x = townOf(63, eight("h-0910"));
        x.brake(0, true);
        hours(x, 8);
        due("worked() of HOUR 7", x.worked(), 254);
        x.brake(0, false);
        hours(x, 1);
        due("worked() when the DAY is over, of 7 feet", x.worked(), 127);
        TownOnWeight all = townOf(8, eight("h-0910"));
        all.hour();
        due("worked() of all", all.worked(), 255);
    }

    static void p14_brakesBehindItDoNotCount() {
        TownOnWeight x = town("h-0910", "h-0910");
        x.hour();
        x.brake(0, true);
        due("worked()", x.worked(), 3);
    }

    // ---- promise 15

    static void p15_nothingWasTaken() {
        TownOnWeight x = townOf(7, "h-0910", "c-1990");
        dueParts("in the morning", x, 0, 0);
        x.brake(0, true);
        hours(x, 2);
        due("DEPTH, all of it LOST", x.count(1) - x.count(2), 7);
        dueParts("nothing TAKEN", x, 0, 0);
    }

    static void p15_oneFootWasTaken() {
        TownOnWeight x = town("h-8910", "h-0119");
        x.hour();
        dueParts("all of 10 for one foot", x, 0, 10);
        due("night()", x.night(), 10);
        dueOfEach("OWES", x, 7, 0, 10);
    }

    static void p15_withoutRests() {
        TownOnWeight x = town("h-0111", "h-0111");
        x.hour();
        dueParts("4 by 2", x, 2, 2);
        TownOnWeight one = townOf(99, "h-0999", "h-0910");
        one.brake(1, true);
        hours(one, 9);
        due("TAKEN", one.about(0, 6), 45);
        dueParts("all of 90", one, 90, 0);
    }

    static void p15_whatIsLeftGoesToTheGreatestRest() {
        TownOnWeight second = town("h-0111", "h-0130");
        second.hour();
        // 5 by 4: 1 rest 1; 15 by 4: 3 rest 3
        dueParts("the second's is greater", second, 1, 4);
        TownOnWeight first = town("h-0113", "h-0130");
        first.hour();
        // 7 by 4: 1 rest 3; 21 by 4: 5 rest 1
        dueParts("the first's is greater", first, 2, 5);
        TownOnWeight two = town("h-0112", "h-0120", "h-0140");
        two.hour();
        // 9 by 7: 1 rest 2; 18 by 7: 2 rest 4; 36 by 7: 5 rest 1
        dueParts("the second's of three", two, 1, 3, 5);
        TownOnWeight twoLeft = town("h-0114", "h-0120", "h-0120");
        twoLeft.hour();
        // 9 by 5: 1 rest 4; 18 by 5: 3 rest 3; 18 by 5: 3 rest 3; two are left
        dueParts("two are left", twoLeft, 2, 4, 3);
    }

    static void p15_ofLikeRestsTheLeastNumber() {
        TownOnWeight x = town("h-0111", "h-0110");
        x.hour();
        dueParts("3 by 2", x, 2, 1);
        TownOnWeight y = town("h-0140", "h-0111", "h-0110");
        y.hour();
        // 28 by 6: 4 rest 4; 7 by 6: 1 rest 1 each; the one that is left goes to the first
        dueParts("7 by 6", y, 5, 1, 1);
        TownOnWeight z = town(eight("h-0110"));
        z.brake(7, true);
        z.rain(true);
        z.hour();
        dueParts("14 by 7", z, 2, 2, 2, 2, 2, 2, 2, 0);
    }

    static void p15_sevenAreLeftOfEight() {
        TownOnWeight x = town("h-0117", "h-0110", "h-0110", "h-0110", "h-0110", "h-0110", "h-0110", "h-0110");
        x.hour();
        // 15 by 8: 1 rest 7 each
        dueParts("15 by 8", x, 2, 2, 2, 2, 2, 2, 2, 1);
        TownOnWeight one = town("h-0111", "h-0110", "h-0110", "h-0110", "h-0110", "h-0110", "h-0110", "h-0110");
        one.hour();
        dueParts("9 by 8", one, 2, 1, 1, 1, 1, 1, 1, 1);
    }

    static void p15_whoTookNothingHasNone() {
        TownOnWeight x = town("h-8910", "h-0112", "h-0110", "h-8910");
        x.hour();
        dueParts("4 by 2", x, 0, 2, 2, 0);
        TownOnWeight y = town("h-8910", "h-0111", "h-0110", "h-8910");
        y.hour();
        dueParts("3 by 2", y, 0, 2, 1, 0);
    }

    static void p15_byTheWholeDay() {
        TownOnWeight x = town("h-0120", "h-1341");
        hours(x, 3);
        // TAKEN 2 and 8, DEPTH 12: 24 by 10: 2 rest 4; 96 by 10: 9 rest 6
        dueParts("12 by 10", x, 2, 10);
        x.night();
        dueParts("behind the NIGHT", x, 0, 0);
    }

    static void p15_whenItIsDown() {
        TownOnWeight x = townOf(11, "c-0930", "h-0110");
        hours(x, 4);
        // TAKEN 9 and 1, DEPTH 11: 99 by 10: 9 rest 9; 11 by 10: 1 rest 1
        due("it is DOWN", x.count(6), 1);
        dueParts("11 by 10", x, 10, 1);
    }

    static void p15_housesThatAreThere() {
        TownOnWeight x = town("h-0910", "h-0910");
        x.hour();
        dueParts("both", x, 1, 1);
        refused("part(2)", x, UNKNOWN, t -> t.part(2));
        for (int h : WRONG_HOUSES) {
            refused("part(" + h + ")", x, UNKNOWN, t -> t.part(h));
        }
    }

    // ---- promise 16

    static void p16_inTheMorning() {
        TownOnWeight x = town("h-0910");
        long before = x.digest();
        due("night()", x.night(), 0);
        due("digest()", x.digest(), before);
        due("night() of no HOUSES", new TownOnWeight().night(), 0);
    }

    static void p16_inAnyHour() {
        for (int hour = 1; hour <= 9; hour++) {
            TownOnWeight x = town("h-0921");
            hours(x, hour);
            due("night() in HOUR " + hour, x.night(), 3 * hour);
            dueCounts("behind it", x, 1, 60, 60, 0, 0, 0, 0, 0, 0, 0);
            dueOfEach("OWES", x, 7, 3 * hour);
            dueOfEach("TAKEN", x, 6, 0);
            due("worked()", x.worked(), 0);
        }
    }

    static void p16_allOfLengthWhenItIsDown() {
        TownOnWeight x = townOf(99, "c-0190", "c-1290", "c-2399", "c-3490", "c-4590", "c-5690", "c-6799", "c-7899");
        hours(x, 8);
        due("nothing HANGS ahead of DOWN", x.count(2), 0);
        due("night()", x.night(), 99);
        due("all HANG", x.count(2), 99);
        due("it is not DOWN", x.count(6), 0);
        due("hour()", x.hour(), 9);
        TownOnWeight lost = townOf(5, "c-0990");
        lost.hour();
        due("night() of all that was LOST", lost.night(), 5);
        due("nobody OWES it", lost.about(0, 7), 0);
        dueCounts("morning", lost, 1, 5, 5, 0, 0, 0, 0);
    }

    static void p16_brakesRainReadingsAndThePageStay() {
        TownOnWeight x = town("h-0920", "c-0910");
        x.brake(0, true);
        x.rain(true);
        x.read(1, 5);
        x.letters(text("h-"));
        hours(x, 2);
        due("night()", x.night(), 4);
        dueOfEach("BRAKE", x, 8, 1, 0);
        dueCounts("behind it", x, 2, 60, 60, 0, 0, 0, 0, 1, 1, 2);
        due("leak(0)", x.leak(0), 3);
    }

    static void p16_owes999AtMost() {
        TownOnWeight x = townOf(99, "h-0990", "h-0910");
        for (int day = 1; day <= 12; day++) {
            hours(x, 9);
            due("night() " + day, x.night(), 90);
            dueOfEach("OWES", x, 7, 81 * day, 9 * day);
        }
        x.brake(1, true);
        hours(x, 2);
        x.night();
        dueOfEach("OWES 990", x, 7, 990, 108);
        hours(x, 1);
        due("night() by which it OWES 999", x.night(), 9);
        dueOfEach("OWES 999", x, 7, 999, 108);
        hours(x, 1);
        due("night() behind that", x.night(), 9);
        dueOfEach("OWES no more", x, 7, 999, 108);
        x.brake(1, false);
        hours(x, 1);
        due("night() of both", x.night(), 10);
        dueOfEach("the other OWES its PART alone", x, 7, 999, 109);
    }

    static void p16_owes999FromBelow() {
        TownOnWeight x = townOf(99, "h-0992");
        for (int day = 1; day <= 10; day++) {
            hours(x, 9);
            x.night();
        }
        dueOfEach("OWES", x, 7, 990);
        x.hour();
        due("part(0) is not cut", x.part(0), 11);
        due("night()", x.night(), 11);
        dueOfEach("OWES", x, 7, 999);
        hours(x, 9);
        x.night();
        dueOfEach("OWES", x, 7, 999);
    }

    static void p16_eachOwesItsPart() {
        TownOnWeight x = town("h-0117", "h-0110", "h-0110", "h-0110", "h-0110", "h-0110", "h-0110", "h-0110");
        x.hour();
        due("night()", x.night(), 15);
        dueOfEach("OWES", x, 7, 2, 2, 2, 2, 2, 2, 2, 1);
        x.hour();
        x.night();
        dueOfEach("OWES more", x, 7, 4, 4, 4, 4, 4, 4, 4, 2);
    }
}
