/** The boundary cases of promises 21 to 25: readings, leaks, where to look. */
public final class BoundaryLeaksTest extends Check {
    public static void main(String[] args) throws Exception {
        runPromises(BoundaryLeaksTest.class, 21, 25);
        finish("checks of boundaries, leaks");
    }

    /** LEAKS, and the least e of each HOUSE (NONE: none). */
    private static void dueLeaks(String call, TownOnWeight x, int leaks, int... least) {
        due(call + ": leaks()", x.leaks(), leaks);
        for (int h = 0; h < least.length; h++) {
            due(call + ": leak(" + h + ")", x.leak(h), least[h]);
        }
    }

    /** One HOUSE that takes 5 and loses 2, with one reading of its own. */
    private static TownOnWeight oneRead(int feet) {
        TownOnWeight x = town("h-0952");
        due("read(1, " + feet + ")", x.read(1, feet), 1);
        return x;
    }

    // ---- promise 21

    static void p21_setsOfOneAtLeast() {
        TownOnWeight x = town("h-0910", "h-0910", "h-0910");
        due("read(1, 5)", x.read(1, 5), 1);
        due("read(7, 5)", x.read(7, 5), 2);
        for (int set : new int[] {0, 8, 9, 15, -1, -8, Integer.MIN_VALUE, Integer.MIN_VALUE + 1, Integer.MAX_VALUE}) {
            refused("read(" + set + ", 5)", x, OUTSIDE, t -> t.read(set, 5));
        }
        TownOnWeight full = fullTown();
        due("read(255, 5)", full.read(255, 5), 1);
        refused("read(256, 5)", full, OUTSIDE, t -> t.read(256, 5));
        refused("read(1, 5) of no HOUSES", new TownOnWeight(), OUTSIDE, t -> t.read(1, 5));
        refused("read(0, 5) of no HOUSES", new TownOnWeight(), OUTSIDE, t -> t.read(0, 5));
    }

    static void p21_feetFrom1To199() {
        TownOnWeight x = town("h-0910");
        due("read(1, 1)", x.read(1, 1), 1);
        due("read(1, 199)", x.read(1, 199), 2);
        for (int feet : new int[] {0, -1, 200, 201, Integer.MIN_VALUE, Integer.MAX_VALUE}) {
            refused("read(1, " + feet + ")", x, OUTSIDE, t -> t.read(1, feet));
        }
        refused("read(0, 0)", x, OUTSIDE, t -> t.read(0, 0));
    }

    static void p21_eightReadingsAndNoNinth() {
        TownOnWeight x = town("h-0910", "h-0910");
        for (int i = 1; i <= 8; i++) {
            due("read(1, 3)", x.read(1, 3), i);
            due("count(8)", x.count(8), i);
        }
        dueLeaks("eight", x, 1, 2, NONE);
        refused("read(2, 3) of a ninth", x, FULL, t -> t.read(2, 3));
        dueLeaks("the ninth does not count", x, 1, 2, NONE);
        due("wipe()", x.wipe(), 8);
        due("read(2, 3)", x.read(2, 3), 1);
        dueLeaks("it alone", x, 2, NONE, 2);
    }

    static void p21_theEighthCounts() {
        TownOnWeight x = town("h-0910", "h-0910");
        for (int i = 1; i <= 7; i++) {
            due("read(1, 1)", x.read(1, 1), i);
        }
        dueLeaks("seven", x, 2, NONE, 1);
        due("read(2, 10)", x.read(2, 10), 8);
        dueLeaks("eight", x, 2, NONE, 9);
    }

    static void p21_outsideGoesAheadOfFull() {
        TownOnWeight x = town("h-0910");
        for (int i = 1; i <= 8; i++) {
            x.read(1, 3);
        }
        refused("read(0, 3)", x, OUTSIDE, t -> t.read(0, 3));
        refused("read(2, 3)", x, OUTSIDE, t -> t.read(2, 3));
        refused("read(1, 0)", x, OUTSIDE, t -> t.read(1, 0));
        refused("read(1, 200)", x, OUTSIDE, t -> t.read(1, 200));
        refused("read(1, 199)", x, FULL, t -> t.read(1, 199));
    }

    static void p21_inAnyHour() {
        TownOnWeight over = town("h-0910");
        hours(over, 9);
        due("read() when the DAY is over", over.read(1, 3), 1);
        TownOnWeight down = townOf(1, "c-0920");
        down.hour();
        due("read() when it is DOWN", down.read(1, 4), 1);
        dueLeaks("DOWN", down, 1, 2);
        down.night();
        due("count(8) behind a NIGHT", down.count(8), 1);
    }

    static void p21_readingsOfHousesThatComeLater() {
        TownOnWeight x = town("h-0910");
        due("read(1, 3)", x.read(1, 3), 1);
        refused("read(2, 3)", x, OUTSIDE, t -> t.read(2, 3));
        write(x, "h00910");
        x.house();
        dueLeaks("the second is not in it", x, 1, 2, NONE);
        due("read(2, 3)", x.read(2, 3), 2);
        dueLeaks("both", x, 1, 2, NONE);
    }

    // ---- promise 22

    static void p22_howManyFrom0To8() {
        for (int many = 0; many <= 8; many++) {
            TownOnWeight x = town("h-0910");
            long before = x.digest();
            for (int i = 0; i < many; i++) {
                x.read(1, 1);
            }
            due("wipe()", x.wipe(), many);
            due("count(8)", x.count(8), 0);
            due("digest()", x.digest(), before);
            due("wipe() again", x.wipe(), 0);
        }
    }

    // ---- promise 23

    static void p23_withoutReadingsAll() {
        due("no HOUSES", new TownOnWeight().leaks(), 0);
        dueLeaks("one", town("h-0910"), 1, 1);
        dueLeaks("eight", fullTown(), 255, 1, 1, 1, 1, 1, 1, 1, 1);
        TownOnWeight x = town("h-0910", "h-0910");
        x.read(1, 1);
        x.read(2, 1);
        dueLeaks("none", x, 0, NONE, NONE);
        x.wipe();
        dueLeaks("wiped", x, 3, 1, 1);
    }

    static void p23_from1To9FeetMore() {
        for (int feet = 1; feet <= 20; feet++) {
            int more = feet - 7;
            boolean leaks = more >= 1 && more <= 9;
            dueLeaks("7 and " + more, oneRead(feet), leaks ? 1 : 0, leaks ? more : NONE);
        }
        dueLeaks("199 feet", oneRead(199), 0, NONE);
    }

    static void p23_onlyWhereSomethingGoesThrough() {
        TownOnWeight x = town("h-0921", "h00932", "h10943", "h-0910");
        x.read(2, 3 + 1 + 2 + 4);
        dueLeaks("on the way to the second", x, 3, 4, 4, NONE, NONE);
        x.wipe();
        x.read(2, 3 + 1 + 2);
        dueLeaks("not on the way to the second", x, 12, NONE, NONE, 1, 1);
        x.read(8, 1);
        dueLeaks("not the fourth", x, 4, NONE, NONE, 1, NONE);
        x.read(4, 4 + 1 + 2 + 3 + 9);
        dueLeaks("the third, by 9", x, 4, NONE, NONE, 9, NONE);
        x.read(15, 2 + 3 + 4 + 1 + 1 + 2 + 3 + 9);
        dueLeaks("all at once", x, 4, NONE, NONE, 9, NONE);
    }

    static void p23_alwaysTheSameNumber() {
        TownOnWeight x = town("h-0910", "h00910", "h00910");
        x.read(2, 3);
        dueLeaks("by 2", x, 3, 2, 2, NONE);
        x.read(4, 3);
        dueLeaks("by 2 again", x, 1, 2, NONE, NONE);
        x.read(6, 4);
        dueLeaks("both at once, by 2 once", x, 1, 2, NONE, NONE);
        x.read(1, 4);
        dueLeaks("by 3", x, 0, NONE, NONE, NONE);
    }

    static void p23_secretLossRainKindsBrakesAndHoursDoNotMatter() {
        TownOnWeight x = town("x-0929", "u08930", "s00140", "c-0915");
        x.rain(true);
        x.brake(3, true);
        hours(x, 3);
        x.read(1, 2 + 9 + 1);
        dueLeaks("LOSS of the SECRET", x, 1, 1, NONE, NONE, NONE);
        x.wipe();
        x.read(2, 3 + 9 + 1);
        dueLeaks("a HUNGRY takes TAKES", x, 3, 1, 1, NONE, NONE);
        x.wipe();
        x.read(4, 4 + 9 + 1);
        dueLeaks("a STORING takes TAKES", x, 5, 1, NONE, 1, NONE);
        x.wipe();
        x.read(8, 1 + 5 + 1);
        dueLeaks("a BRAKE does not matter", x, 8, NONE, NONE, NONE, 1);
    }

    static void p23_eachShaftOnce() {
        TownOnWeight x = town("h-0919", "h00910", "h00910");
        x.read(7, 3 + 9);
        dueLeaks("nothing more", x, 0, NONE, NONE, NONE);
        x.wipe();
        x.read(6, 2 + 9 + 1);
        dueLeaks("1 more", x, 7, 1, 1, 1);
    }

    static void p23_theGreatestReading() {
        // eight take 72 and lose 72; a leak of 9 shows 153 feet, of 10 none
        TownOnWeight x = town(eight("h-0999"));
        x.read(255, 153);
        dueLeaks("153", x, 255, 9, 9, 9, 9, 9, 9, 9, 9);
        x.wipe();
        x.read(255, 154);
        dueLeaks("154", x, 0, NONE, NONE, NONE, NONE, NONE, NONE, NONE, NONE);
        x.wipe();
        x.read(255, 144);
        dueLeaks("144", x, 0, NONE);
        x.wipe();
        x.read(255, 145);
        dueLeaks("145", x, 255, 1);
    }

    // ---- promise 24

    static void p24_theLeast() {
        TownOnWeight x = town("h-0910", "h-0910");
        due("leak(0) without READINGS", x.leak(0), 1);
        x.read(2, 1);
        due("leak(0), nothing went through it", x.leak(0), 1);
        due("leak(1), nothing more went", x.leak(1), NONE);
        x.read(1, 10);
        due("leak(0) of 9", x.leak(0), 9);
        x.read(3, 11);
        due("leak(0) of 9 by both", x.leak(0), 9);
        x.read(3, 12);
        due("leak(0) of 9 and 10", x.leak(0), NONE);
    }

    static void p24_housesThatAreThere() {
        for (int houses = 0; houses <= 8; houses++) {
            String[] all = new String[houses];
            java.util.Arrays.fill(all, "h-0910");
            TownOnWeight x = town(all);
            int behind = houses;
            if (houses > 0) {
                due("leak() of the last", x.leak(houses - 1), 1);
            }
            refused("leak() of the one behind it", x, UNKNOWN, t -> t.leak(behind));
            for (int h : WRONG_HOUSES) {
                refused("leak(" + h + ")", x, UNKNOWN, t -> t.leak(h));
            }
        }
    }

    // ---- promise 25

    static void p25_noLeaks() {
        due("look() of no HOUSES", new TownOnWeight().look(), NONE);
        TownOnWeight x = town("h-0910");
        due("look() of one", x.look(), 1);
        x.read(1, 1);
        due("look() of none that leak", x.look(), NONE);
        x.wipe();
        due("look() when wiped", x.look(), 1);
    }

    static void p25_oneLeakIsLeft() {
        TownOnWeight x = town("h-0910", "h-0910", "h-0910");
        x.read(4, 3);
        due("leaks()", x.leaks(), 4);
        due("look(): any set, the least bits", x.look(), 1);
    }

    static void p25_halfOfThem() {
        due("eight that hang alone", fullTown().look(), 15);
        due("a chain of eight", town("h-0910", "h00910", "h10910", "h20910", "h30910", "h40910", "h50910", "h60910").look(), 8);
        due("seven on one", town("h-0910", "h00910", "h00910", "h00910", "h00910", "h00910", "h00910", "h00910").look(), 14);
        due("two", town("h-0910", "h-0910").look(), 1);
        due("two, one on the other", town("h-0910", "h00910").look(), 1);
    }

    static void p25_theGreaterNumberCounts() {
        // of five, two or three are left by each: {0, 1} are the least bits of two
        due("five that hang alone", town("h-0910", "h-0910", "h-0910", "h-0910", "h-0910").look(), 3);
        // a chain of five: 2 and 3 by the second, 3 and 2 by the third
        due("a chain of five", town("h-0910", "h00910", "h10910", "h20910", "h30910").look(), 2);
        due("three that hang alone", town("h-0910", "h-0910", "h-0910").look(), 1);
    }

    static void p25_onlyOfLeaks() {
        TownOnWeight x = town("h-0910", "h00910", "h10910", "h20910", "h-0910", "h-0910");
        x.read(8, 3);
        due("leaks() on a chain of four", x.leaks(), 15);
        due("look() in the chain", x.look(), 2);
        x.wipe();
        x.read(8, 1);
        due("leaks() beside the chain", x.leaks(), 48);
        due("look() beside the chain", x.look(), 16);
        x.wipe();
        x.read(2, 1);
        due("leaks() below the second", x.leaks(), 60);
        // of {2, 3, 4, 5} the fourth's way has two
        due("look() below the second", x.look(), 8);
    }

    static void p25_whatHousesWantDoesNotMatter() {
        TownOnWeight x = town("h-8910", "c-8910");
        x.brake(0, true);
        due("look() in HOUR 0", x.look(), 1);
        hours(x, 9);
        due("look() when the DAY is over", x.look(), 1);
        TownOnWeight secret = town("x-0910", "x00910", "x10910", "x20910");
        due("look() in SHAFTS of SECRETS", secret.look(), 2);
    }
}
