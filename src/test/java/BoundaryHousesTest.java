/** The boundary cases of promises 1 to 10: a new object, the page, houses, length, brakes, rain. */
public final class BoundaryHousesTest extends Check {
    public static void main(String[] args) throws Exception {
        runPromises(BoundaryHousesTest.class, 1, 10);
        finish("checks of boundaries, houses");
    }

    /** A page whose letter at one place is this code, between letters ahead of it and behind it. */
    private static int faultOf(TownOnWeight x, String ahead, int code, String behind) {
        write(x, ahead + (char) code + behind);
        return x.fault();
    }

    private static String[] many(int houses) {
        String[] all = new String[houses];
        java.util.Arrays.fill(all, "h-0910");
        return all;
    }

    /** Whether a town of one house, "h-0910", takes the page as its second. */
    private static void taken(String page) {
        TownOnWeight x = town("h-0910");
        write(x, page);
        due("house() of " + page, x.house(), 1);
        due("house() of " + page + " empties THE PAGE", x.count(9), 0);
    }

    private static void none(String page) {
        TownOnWeight x = town("h-0910");
        write(x, page);
        refused("house() of " + page, x, STATE, TownOnWeight::house);
        due("house() of " + page + " leaves THE PAGE", x.count(9), page.length());
    }

    // ---- promise 1

    static void p01_noHousesMorningAnd60FeetHang() {
        TownOnWeight x = new TownOnWeight();
        dueCounts("new", x, 0, 60, 60, 0, 0, 0, 0, 0, 0, 0);
        due("worked()", x.worked(), 0);
        due("length(1)", x.length(1), 60);
    }

    static void p01_nothingNamesAHouse() {
        TownOnWeight x = new TownOnWeight();
        due("about(0, 0)", x.about(0, 0), UNKNOWN);
        due("as(0, 0)", x.as(0, 0), UNKNOWN);
        due("brake(0, true)", x.brake(0, true), UNKNOWN);
        due("wants(0)", x.wants(0), UNKNOWN);
        due("part(0)", x.part(0), UNKNOWN);
        due("leak(0)", x.leak(0), UNKNOWN);
        due("goes(0)", x.goes(0), 0);
        due("goes(1)", x.goes(1), OUTSIDE);
        due("read(1, 1)", x.read(1, 1), OUTSIDE);
    }

    static void p01_withoutHousesAllIsEmpty() {
        TownOnWeight x = new TownOnWeight();
        due("leaks()", x.leaks(), 0);
        due("look()", x.look(), NONE);
        due("plan(0)", x.plan(0), 0);
        due("plan(1)", x.plan(1), 0);
        due("more(99)", x.more(99), 0);
        due("missing(1, 0)", x.missing(1, 0), 0);
        due("missing(72, 2)", x.missing(72, 2), 0);
        due("rest(0, 0)", x.rest(0, 0), 0);
        due("rest(0, 1)", x.rest(0, 1), 60);
        due("rest(0, 2)", x.rest(0, 2), NONE);
        due("blank()", x.blank(), 0);
        due("fault()", x.fault(), 0);
        due("wipe()", x.wipe(), 0);
        due("night()", x.night(), 0);
        due("rain(false)", x.rain(false), 0);
        due("restore()", x.restore(), STATE);
    }

    // ---- promise 2

    static void p02_upToEightLettersAtOnce() {
        String letters = "h-0910zz";
        for (int many = 0; many <= 8; many++) {
            TownOnWeight x = new TownOnWeight();
            due("letters of " + many, x.letters(text(letters.substring(0, many))), many);
            due("count(9)", x.count(9), many);
            due("fault()", x.fault(), Math.min(6, many));
        }
    }

    static void p02_theLowestByteFirst() {
        TownOnWeight x = new TownOnWeight();
        due("letters('h' lowest)", x.letters('h' | '-' << 8 | '1' << 16), 3);
        due("letters('3' lowest)", x.letters('3' | '5' << 8 | '7' << 16), 6);
        due("house()", x.house(), 0);
        due("FROM", x.about(0, 2), 1);
        due("TO", x.about(0, 3), 3);
        due("TAKES", x.about(0, 4), 5);
        due("LOSS", x.about(0, 5), 7);
    }

    static void p02_theEighthLetterIsTheHighestByte() {
        TownOnWeight x = new TownOnWeight();
        due("letters of four", x.letters(text("hh-0")), 4);
        x.blank();
        due("letters with 126 in the highest byte", x.letters(126L << 56 | text("abcdefg")), 8);
        due("letters of four more", x.letters(text("abcd")), 12);
        refused("letters with 127 in the highest byte", new TownOnWeight(), OUTSIDE,
            t -> t.letters(127L << 56 | text("abcdefg")));
        refused("letters with 128 in the highest byte", new TownOnWeight(), OUTSIDE,
            t -> t.letters(128L << 56 | text("abcdefg")));
    }

    static void p02_noLettersAtAll() {
        TownOnWeight x = new TownOnWeight();
        due("letters(0) on an empty page", x.letters(0), 0);
        x.letters(text("abc"));
        due("letters(0) on a page of 3", x.letters(0), 3);
        write(x, "abcdefghijkl");
        due("letters(0) on a page of 12", x.letters(0), 12);
    }

    static void p02_bytesFrom1To126AndNoneAbove() {
        for (int place = 0; place < 8; place++) {
            for (int code = 1; code < 256; code++) {
                TownOnWeight x = new TownOnWeight();
                long w = text("aaaaaaaa".substring(0, place)) | (long) code << 8 * place;
                due("letters: " + code + " at " + place, x.letters(w), code <= 126 ? place + 1 : OUTSIDE);
                due("count(9)", x.count(9), code <= 126 ? place + 1 : 0);
            }
        }
    }

    static void p02_aByteBehindAZeroMustBeZero() {
        for (int zero = 0; zero < 8; zero++) {
            String ahead = "aaaaaaaa".substring(0, zero);
            due("letters: 0 at " + zero, new TownOnWeight().letters(text(ahead)), zero);
            for (int place = zero + 1; place < 8; place++) {
                long w = text(ahead) | 1L << 8 * place;
                refused("letters: 0 at " + zero + ", 1 at " + place, new TownOnWeight(), OUTSIDE, t -> t.letters(w));
            }
        }
    }

    static void p02_twelveLettersAndNoThirteenth() {
        for (int had = 0; had <= 12; had++) {
            for (int more = 0; more <= 8; more++) {
                TownOnWeight x = new TownOnWeight();
                write(x, "abcdefghijkl".substring(0, had));
                long w = text("zzzzzzzz".substring(0, more));
                boolean fits = had + more <= 12;
                due("letters: " + more + " behind " + had, x.letters(w), fits ? had + more : FULL);
                due("count(9)", x.count(9), fits ? had + more : had);
            }
        }
    }

    static void p02_fullTakesNoneOfTheLetters() {
        TownOnWeight x = new TownOnWeight();
        write(x, "h-0910zz");
        refused("letters of five more", x, FULL, t -> t.letters(text("abcde")));
        due("letters of four more", x.letters(text("abcd")), 12);
        refused("letters of one more", x, FULL, t -> t.letters('a'));
        due("blank()", x.blank(), 12);
        due("letters behind it", x.letters(text("h-0910")), 6);
    }

    static void p02_outsideGoesAheadOfFull() {
        TownOnWeight x = new TownOnWeight();
        write(x, "abcdefghijkl");
        refused("letters(127)", x, OUTSIDE, t -> t.letters(127));
        refused("letters: one behind a 0", x, OUTSIDE, t -> t.letters('a' << 8));
        refused("letters(-1)", x, OUTSIDE, t -> t.letters(-1));
        refused("letters(MIN_VALUE)", x, OUTSIDE, t -> t.letters(Long.MIN_VALUE));
        refused("letters(MAX_VALUE)", x, OUTSIDE, t -> t.letters(Long.MAX_VALUE));
        refused("letters of eight, the last one 127", x, OUTSIDE, t -> t.letters(127L << 56 | text("abcdefg")));
    }

    static void p02_lettersComeInAnyHour() {
        TownOnWeight over = town("h-0910");
        hours(over, 9);
        due("letters when the DAY is over", over.letters(text("h")), 1);
        over.night();
        due("letters behind a NIGHT", over.letters(text("-0910")), 6);
        due("house()", over.house(), 1);
        TownOnWeight down = townOf(1, "c-0920");
        down.hour();
        due("letters when it is DOWN", down.letters('h'), 1);
    }

    // ---- promise 3

    static void p03_howManyItHadFrom0To12() {
        for (int had = 0; had <= 12; had++) {
            TownOnWeight x = new TownOnWeight();
            write(x, "abcdefghijkl".substring(0, had));
            due("blank()", x.blank(), had);
            due("count(9)", x.count(9), 0);
            due("fault()", x.fault(), 0);
            due("blank() again", x.blank(), 0);
            due("letters(0)", x.letters(0), 0);
        }
    }

    static void p03_nothingButThePageChanges() {
        TownOnWeight x = town("c-0930", "s00921");
        x.hour();
        long before = x.digest();
        x.letters(text("h-"));
        due("blank()", x.blank(), 2);
        due("digest()", x.digest(), before);
    }

    // ---- promise 4

    static void p04_anEmptyPage() {
        due("fault()", new TownOnWeight().fault(), 0);
        due("fault() by eight HOUSES", fullTown().fault(), 0);
    }

    static void p04_theLettersOfKinds() {
        TownOnWeight x = new TownOnWeight();
        for (int code = 1; code <= 126; code++) {
            boolean kind = code == 'h' || code == 'c' || code == 'u' || code == 's' || code == 'x';
            due("fault() of code " + code, faultOf(x, "", code, ""), kind ? 1 : 0);
            due("fault() of code " + code + " in a text", faultOf(x, "", code, "-0910"), kind ? 6 : 0);
            x.blank();
            if (code % 10 == 0) {
                x = new TownOnWeight();
            }
        }
    }

    static void p04_parentsByHowManyHousesThereAre() {
        for (int houses = 0; houses <= 8; houses++) {
            for (int code = 1; code <= 126; code++) {
                TownOnWeight x = town(many(houses));
                boolean parent = code == '-' || code >= '0' && code < '0' + houses;
                due("fault() of parent " + code + " by " + houses, faultOf(x, "h", code, ""), parent ? 2 : 1);
                due("fault() in a text", faultOf(x, "h", code, "0910"), parent ? 6 : 1);
            }
        }
    }

    static void p04_fromIs0To8() {
        for (int code = 1; code <= 126; code++) {
            boolean from = code >= '0' && code <= '8';
            due("fault() of FROM " + code, faultOf(new TownOnWeight(), "h-", code, ""), from ? 3 : 2);
            due("fault() in a text", faultOf(new TownOnWeight(), "h-", code, "910"), from ? 6 : 2);
        }
    }

    static void p04_toIs1To9AboveFrom() {
        for (int from = 0; from <= 8; from++) {
            for (int code = 1; code <= 126; code++) {
                boolean to = code > '0' + from && code <= '9';
                due("fault() of TO " + code, faultOf(new TownOnWeight(), "h-" + from, code, ""), to ? 4 : 3);
                due("fault() in a text", faultOf(new TownOnWeight(), "h-" + from, code, "10"), to ? 6 : 3);
            }
        }
    }

    static void p04_takesIs1To9() {
        for (int code = 1; code <= 126; code++) {
            boolean takes = code >= '1' && code <= '9';
            due("fault() of TAKES " + code, faultOf(new TownOnWeight(), "h-09", code, ""), takes ? 5 : 4);
            due("fault() in a text", faultOf(new TownOnWeight(), "h-09", code, "0"), takes ? 6 : 4);
        }
    }

    static void p04_lossIs0To9() {
        for (int code = 1; code <= 126; code++) {
            boolean loss = code >= '0' && code <= '9';
            due("fault() of LOSS " + code, faultOf(new TownOnWeight(), "h-091", code, ""), loss ? 6 : 5);
            due("fault() behind it", faultOf(new TownOnWeight(), "h-091", code, "0"), loss ? 6 : 5);
        }
    }

    static void p04_noHouseHasASeventhLetter() {
        for (int code = 1; code <= 126; code++) {
            due("fault() of a seventh " + code, faultOf(new TownOnWeight(), "h-0910", code, ""), 6);
        }
        due("fault() of twelve", faultOf(new TownOnWeight(), "h-0910h-09", '1', "0"), 6);
    }

    static void p04_theFirstLetterCounts() {
        TownOnWeight x = new TownOnWeight();
        due("all are wrong", faultOf(x, "", 'z', "zzzzzzzzzzz"), 0);
        due("all but one", faultOf(x, "h", 'z', "zzzz"), 1);
        due("all but two", faultOf(x, "h-", 'z', "zzz"), 2);
        due("FROM 9, whatever TO", faultOf(x, "h-", '9', "910"), 2);
        due("TO as FROM and TAKES 0", faultOf(x, "h-5", '5', "00"), 3);
    }

    static void p04_itReadsInAnyHourAndChangesNothing() {
        TownOnWeight x = town("h-0910");
        write(x, "h00910");
        x.hour();
        refused("fault() in HOUR 1", x, 6, TownOnWeight::fault);
        hours(x, 8);
        refused("fault() when the DAY is over", x, 6, TownOnWeight::fault);
    }

    static void p04_byHowManyHousesThereAreNow() {
        TownOnWeight x = town("h-0910");
        x.image();
        write(x, "h10910");
        due("fault() by one HOUSE", x.fault(), 1);
        write(x, "h-0910");
        due("house()", x.house(), 1);
        write(x, "h10910");
        due("fault() by two", x.fault(), 6);
        x.restore();
        due("fault() by one again", x.fault(), 1);
    }

    // ---- promise 5

    static void p05_sixLettersNoFewerNoMore() {
        String page = "h-0910000000";
        for (int many = 0; many <= 12; many++) {
            if (many == 6) {
                taken(page.substring(0, many));
            } else {
                none(page.substring(0, many));
            }
        }
    }

    static void p05_theBoundsOfEachLetter() {
        for (String page : new String[] {"h-0910", "c-0910", "u-0910", "s-0910", "x-0910", "h00910", "h-8910", "h-0110",
            "h-7810", "h-0990", "h-0919", "h-0199", "x08999"}) {
            taken(page);
        }
        for (String page : new String[] {"g-0910", "H-0910", "h10910", "h,0910", "h-9910", "h-/910", "h-8810", "h-0010",
            "h-0:10", "h-0900", "h-09:0", "h-091/", "h-091:", "h-091-", "-h0910", "h-1010"}) {
            none(page);
        }
    }

    static void p05_aParentHasALowerNumber() {
        for (int houses = 0; houses < 8; houses++) {
            TownOnWeight x = town(many(houses));
            write(x, "h" + houses + "0910");
            refused("house() on itself, " + houses, x, STATE, TownOnWeight::house);
            write(x, houses == 0 ? "h-0910" : "h" + (houses - 1) + "0910");
            due("house() on the one ahead of it", x.house(), houses);
            due("PARENT", x.about(houses, 1), houses - 1);
        }
    }

    static void p05_theEighthHouseAndNoNinth() {
        TownOnWeight x = town(many(7));
        write(x, "h60910");
        due("house() of the eighth", x.house(), 7);
        write(x, "h70910");
        refused("house() of the ninth", x, FULL, TownOnWeight::house);
        due("its letters stay", x.count(9), 6);
        due("eight HOUSES", x.count(0), 8);
    }

    static void p05_hour0AndNoLater() {
        TownOnWeight x = town("h-0910");
        write(x, "h-0910");
        for (int hour = 1; hour <= 9; hour++) {
            x.hour();
            refused("house() in HOUR " + hour, x, STATE, TownOnWeight::house);
        }
        x.night();
        due("house() in HOUR 0 of the next DAY", x.house(), 1);
    }

    static void p05_anHourOfNobodyBeginsTheDayToo() {
        TownOnWeight x = new TownOnWeight();
        write(x, "h-0910");
        x.hour();
        refused("house() in HOUR 1", x, STATE, TownOnWeight::house);
        due("night()", x.night(), 0);
        due("house()", x.house(), 0);
    }

    static void p05_notWhenItIsDown() {
        TownOnWeight x = townOf(1, "c-0920");
        write(x, "h-0910");
        x.hour();
        refused("house() when it is DOWN", x, STATE, TownOnWeight::house);
        x.night();
        due("house() behind the NIGHT", x.house(), 1);
    }

    static void p05_stateGoesAheadOfFull() {
        TownOnWeight x = fullTown();
        refused("house() of nothing among eight", x, STATE, TownOnWeight::house);
        write(x, "h80910");
        refused("house() on a ninth among eight", x, STATE, TownOnWeight::house);
        write(x, "h-0910");
        refused("house() among eight", x, FULL, TownOnWeight::house);
        x.hour();
        refused("house() among eight in HOUR 1", x, STATE, TownOnWeight::house);
    }

    static void p05_aPlaceThatRestoreMadeFree() {
        TownOnWeight x = town(many(7));
        x.image();
        write(x, "c-0990");
        due("house() of the eighth", x.house(), 7);
        x.brake(7, true);
        x.read(128, 9);
        hours(x, 2);
        x.night();
        x.restore();
        write(x, "s-1240");
        due("house() of another eighth", x.house(), 7);
        due("its KIND", x.about(7, 0), 3);
        due("its FROM", x.about(7, 2), 1);
        due("it has TAKEN nothing", x.about(7, 6), 0);
        due("it OWES nothing", x.about(7, 7), 0);
        due("it has no BRAKE", x.about(7, 8), 0);
    }

    static void p05_aNewHouseOnALaterDay() {
        TownOnWeight x = town("h-0930");
        hours(x, 9);
        x.night();
        write(x, "s00910");
        due("house()", x.house(), 1);
        dueOfEach("OWES", x, 7, 27, 0);
        dueOfEach("TAKEN", x, 6, 0, 0);
        due("wants(1)", x.wants(1), 1);
    }

    static void p05_theOthersStayAsTheyAre() {
        TownOnWeight x = town("h-0930", "c-0910");
        hours(x, 9);
        x.night();
        x.length(50);
        x.brake(0, true);
        x.rain(true);
        x.read(1, 5);
        write(x, "h00910");
        due("house()", x.house(), 2);
        dueOfEach("BRAKE", x, 8, 1, 0, 0);
        dueOfEach("OWES", x, 7, 27, 9, 0);
        dueCounts("all else", x, 3, 50, 50, 0, 0, 0, 0, 1, 1, 0);
        due("leak(0)", x.leak(0), 2);
    }

    // ---- promise 6

    static void p06_leastAndGreatestOfEach() {
        TownOnWeight x = town("h-0110", "x08999");
        long[] least = {0, NONE, 0, 1, 1, 0, 0, 0, 0};
        long[] greatest = {4, 0, 8, 9, 9, 9, 0, 0, 0};
        for (int what = 0; what <= 8; what++) {
            due("about(0, " + what + ")", x.about(0, what), least[what]);
            due("about(1, " + what + ")", x.about(1, what), greatest[what]);
        }
    }

    static void p06_parentsFromNoneTo6() {
        TownOnWeight x = town("h-0910", "h00910", "h10910", "h20910", "h30910", "h40910", "h50910", "h60910");
        dueOfEach("PARENT", x, 1, NONE, 0, 1, 2, 3, 4, 5, 6);
    }

    static void p06_takenUpToAllThatHung() {
        TownOnWeight x = townOf(99, "u-0990", "h-0990");
        x.brake(1, true);
        hours(x, 9);
        due("TAKEN", x.about(0, 6), 90);
        due("TAKEN by one with a BRAKE", x.about(1, 6), 0);
        x.night();
        dueOfEach("TAKEN behind a NIGHT", x, 6, 0, 0);
        dueOfEach("OWES", x, 7, 90, 0);
        dueOfEach("BRAKE", x, 8, 0, 1);
    }

    static void p06_whatIs0To8() {
        TownOnWeight x = town("h-0910");
        refused("about(0, -1)", x, OUTSIDE, t -> t.about(0, -1));
        refused("about(0, 9)", x, OUTSIDE, t -> t.about(0, 9));
        for (int far : FAR) {
            refused("about(0, " + far + ")", x, OUTSIDE, t -> t.about(0, far));
        }
    }

    static void p06_housesThatAreThere() {
        for (int houses = 0; houses <= 8; houses++) {
            int behind = houses;
            TownOnWeight x = town(many(houses));
            if (houses > 0) {
                due("about() of the last", x.about(houses - 1, 4), 1);
            }
            refused("about() of the one behind it", x, UNKNOWN, t -> t.about(behind, 4));
            refused("about(-1, 4)", x, UNKNOWN, t -> t.about(-1, 4));
        }
    }

    static void p06_unknownGoesAheadOfOutside() {
        TownOnWeight x = town("h-0910");
        refused("about(1, 9)", x, UNKNOWN, t -> t.about(1, 9));
        refused("about(-1, -1)", x, UNKNOWN, t -> t.about(-1, -1));
    }

    // ---- promise 7

    static void p07_eachKindAsEach() {
        TownOnWeight x = town("h-0910", "c-0910", "u-0910", "s-0910", "x-0910");
        String[] as = {"y----", "yy---", "y-y--", "y--y-", "y-y-y"};
        for (int h = 0; h < 5; h++) {
            for (int kind = 0; kind < 5; kind++) {
                due("as(" + h + ", " + kind + ")", x.as(h, kind), as[h].charAt(kind) == 'y' ? h : NONE);
            }
        }
    }

    static void p07_kindIs0To4() {
        TownOnWeight x = town("x-0910");
        due("as(0, 4)", x.as(0, 4), 0);
        refused("as(0, 5)", x, OUTSIDE, t -> t.as(0, 5));
        due("as(0, 0)", x.as(0, 0), 0);
        refused("as(0, -1)", x, OUTSIDE, t -> t.as(0, -1));
        for (int far : FAR) {
            refused("as(0, " + far + ")", x, OUTSIDE, t -> t.as(0, far));
        }
    }

    static void p07_housesThatAreThere() {
        TownOnWeight x = fullTown();
        due("as(7, 0)", x.as(7, 0), 7);
        for (int h : WRONG_HOUSES) {
            refused("as(" + h + ", 0)", x, UNKNOWN, t -> t.as(h, 0));
        }
        TownOnWeight one = town("h-0910");
        due("as(0, 0)", one.as(0, 0), 0);
        refused("as(1, 0)", one, UNKNOWN, t -> t.as(1, 0));
    }

    static void p07_unknownGoesAheadOfOutside() {
        TownOnWeight x = town("h-0910");
        refused("as(1, 5)", x, UNKNOWN, t -> t.as(1, 5));
        refused("as(-1, -1)", x, UNKNOWN, t -> t.as(-1, -1));
    }

    // ---- promise 8

    static void p08_lengthIs1To99() {
        TownOnWeight x = new TownOnWeight();
        int was = 60;
        for (int v = -2; v <= 102; v++) {
            int now = v;
            if (v >= 1 && v <= 99) {
                due("length(" + v + ")", x.length(v), was);
                due("LENGTH", x.count(1), v);
                due("HANGS", x.count(2), v);
                was = v;
            } else {
                refused("length(" + v + ")", x, OUTSIDE, t -> t.length(now));
            }
        }
        for (int far : FAR) {
            refused("length(" + far + ")", x, OUTSIDE, t -> t.length(far));
        }
    }

    static void p08_hour0AndNoLater() {
        TownOnWeight x = town("h-0910");
        for (int hour = 1; hour <= 9; hour++) {
            x.hour();
            refused("length(50) in HOUR " + hour, x, STATE, t -> t.length(50));
        }
        x.night();
        due("length(50) in HOUR 0 of the next DAY", x.length(50), 60);
    }

    static void p08_notWhenItIsDown() {
        TownOnWeight x = townOf(1, "c-0920");
        x.hour();
        refused("length(2) when it is DOWN", x, STATE, t -> t.length(2));
        x.night();
        due("length(2) behind the NIGHT", x.length(2), 1);
        due("hour()", x.hour(), 2);
        due("it is not DOWN", x.count(6), 0);
    }

    static void p08_outsideGoesAheadOfState() {
        TownOnWeight x = new TownOnWeight();
        x.hour();
        refused("length(0) in HOUR 1", x, OUTSIDE, t -> t.length(0));
        refused("length(100) in HOUR 1", x, OUTSIDE, t -> t.length(100));
        refused("length(99) in HOUR 1", x, STATE, t -> t.length(99));
        refused("length(1) in HOUR 1", x, STATE, t -> t.length(1));
    }

    static void p08_theNextNightWindsUpToIt() {
        TownOnWeight x = townOf(99, "h-0990");
        hours(x, 9);
        due("night()", x.night(), 81);
        due("length(9)", x.length(9), 99);
        hours(x, 9);
        due("night() of 9 feet", x.night(), 9);
        due("HANGS", x.count(2), 9);
    }

    // ---- promise 9

    static void p09_whetherItHad() {
        TownOnWeight x = fullTown();
        for (int h = 0; h < 8; h++) {
            due("brake(" + h + ", false) of none", x.brake(h, false), 0);
            due("brake(" + h + ", true)", x.brake(h, true), 0);
            due("brake(" + h + ", true) again", x.brake(h, true), 1);
            dueOfEach("BRAKE", x, 8, 1, h > 0 ? 1 : 0, h > 1 ? 1 : 0);
        }
        due("goes(255)", x.goes(255), 0);
        for (int h = 0; h < 8; h++) {
            due("brake(" + h + ", false)", x.brake(h, false), 1);
            due("brake(" + h + ", false) again", x.brake(h, false), 0);
        }
        due("goes(255) of all", x.goes(255), 8);
    }

    static void p09_housesThatAreThere() {
        for (int houses = 0; houses <= 8; houses++) {
            int behind = houses;
            TownOnWeight x = town(many(houses));
            if (houses > 0) {
                due("brake() of the last", x.brake(houses - 1, true), 0);
            }
            refused("brake() of the one behind it", x, UNKNOWN, t -> t.brake(behind, true));
            refused("brake() off the one behind it", x, UNKNOWN, t -> t.brake(behind, false));
            for (int h : WRONG_HOUSES) {
                refused("brake(" + h + ", true)", x, UNKNOWN, t -> t.brake(h, true));
            }
        }
    }

    static void p09_inAnyHour() {
        TownOnWeight x = townOf(1, "c-0920");
        x.hour();
        due("brake(0, true) when it is DOWN", x.brake(0, true), 0);
        x.night();
        due("hour() behind the NIGHT", x.hour(), 0);
        due("it is not DOWN", x.count(6), 0);
        hours(x, 8);
        due("brake(0, false) when the DAY is over", x.brake(0, false), 1);
    }

    // ---- promise 10

    static void p10_whetherThereWas() {
        TownOnWeight x = town("h-0910");
        due("rain(false)", x.rain(false), 0);
        due("rain(true)", x.rain(true), 0);
        due("count(7)", x.count(7), 1);
        due("rain(true) again", x.rain(true), 1);
        due("rain(false) again", x.rain(false), 1);
        due("count(7) again", x.count(7), 0);
        due("rain(false) at last", x.rain(false), 0);
    }

    static void p10_itStaysThroughHoursAndNights() {
        TownOnWeight x = town("h-0910");
        x.rain(true);
        hours(x, 9);
        due("9 feet are LOST", x.count(5), 9);
        due("rain(true) when the DAY is over", x.rain(true), 1);
        x.night();
        due("rain(true) behind a NIGHT", x.rain(true), 1);
    }
}
