/** The boundary cases of promises 26 to 29: the image, counts, the digest. */
public final class BoundaryAllTest extends Check {
    public static void main(String[] args) throws Exception {
        runPromises(BoundaryAllTest.class, 26, 29);
        finish("checks of boundaries, what is told of all");
    }

    private static long mixed(long h, long... numbers) {
        long all = h;
        for (long number : numbers) {
            all = 31 * all + number;
        }
        return all;
    }

    /** The digest as the document tells it, from the other calls and the letters that were written. */
    private static long digestOf(TownOnWeight x, String page) {
        long h = 601;
        int houses = x.count(0);
        for (int i = 0; i < houses; i++) {
            for (int what = 0; what <= 8; what++) {
                h = mixed(h, x.about(i, what));
            }
            h = mixed(h, x.wants(i), x.part(i), x.leak(i));
        }
        h = mixed(h, x.worked(), x.goes((1 << houses) - 1), x.plan(0), x.plan(1), x.more(9), x.leaks(), x.look());
        for (char letter : page.toCharArray()) {
            h = mixed(h, letter);
        }
        for (int what = 0; what <= 9; what++) {
            h = mixed(h, x.count(what));
        }
        return h;
    }

    private static void dueDigest(String call, TownOnWeight x, String page) {
        due(call + ": digest()", x.digest(), digestOf(x, page));
        due(call + ": digest() again", x.digest(), digestOf(x, page));
    }

    // ---- promise 26

    static void p26_theLatestAlone() {
        TownOnWeight x = townOf(50, "h-0930");
        due("image() in HOUR 0", x.image(), 50);
        x.hour();
        due("image() in HOUR 1", x.image(), 47);
        x.hour();
        due("restore()", x.restore(), 47);
        due("HOUR", x.count(3), 1);
    }

    static void p26_inAnyHour() {
        TownOnWeight none = new TownOnWeight();
        due("image() of no HOUSES", none.image(), 60);
        TownOnWeight over = town("h-0920");
        hours(over, 9);
        due("image() when the DAY is over", over.image(), 42);
        over.night();
        due("restore() to the end of the DAY", over.restore(), 42);
        due("HOUR", over.count(3), 9);
        refused("hour()", over, STATE, TownOnWeight::hour);
        TownOnWeight down = townOf(1, "c-0920");
        down.hour();
        due("image() when it is DOWN", down.image(), 0);
    }

    static void p26_itChangesNothing() {
        TownOnWeight x = town("h-0930", "s00920");
        x.letters(text("h0"));
        x.read(1, 4);
        x.hour();
        long before = x.digest();
        x.image();
        due("digest()", x.digest(), before);
        x.image();
        due("digest() behind another", x.digest(), before);
    }

    static void p26_whatComesBehindItLeavesIt() {
        TownOnWeight x = town("h-0930", "s00920");
        x.read(1, 4);
        x.hour();
        x.image();
        long kept = x.digest();
        for (int i = 0; i < 3; i++) {
            hours(x, 4);
            x.brake(0, true);
            x.rain(true);
            x.read(2, 9);
            x.night();
            x.length(7 + i);
            x.wipe();
            x.read(3, 8);
            x.restore();
            due("digest() behind restore() " + i, x.digest(), kept);
        }
    }

    // ---- promise 27

    static void p27_noneWasKept() {
        TownOnWeight x = town("h-0910");
        refused("restore()", x, STATE, TownOnWeight::restore);
        hours(x, 9);
        refused("restore() when the DAY is over", x, STATE, TownOnWeight::restore);
        x.night();
        refused("restore() behind a NIGHT", x, STATE, TownOnWeight::restore);
        x.image();
        due("restore()", x.restore(), 60);
        due("restore() again", x.restore(), 60);
        refused("restore() of another", new TownOnWeight(), STATE, TownOnWeight::restore);
    }

    static void p27_howManyHouses() {
        TownOnWeight x = town("h-0910", "h00910");
        x.image();
        for (int i = 2; i < 8; i++) {
            write(x, "c10910");
            due("house()", x.house(), i);
        }
        x.restore();
        due("count(0)", x.count(0), 2);
        due("about(1, 1)", x.about(1, 1), 0);
        refused("about(2, 0)", x, UNKNOWN, t -> t.about(2, 0));
        refused("goes(4)", x, OUTSIDE, t -> t.goes(4));
        refused("read(4, 5)", x, OUTSIDE, t -> t.read(4, 5));
        due("leaks()", x.leaks(), 3);
        due("goes(3)", x.goes(3), 2);
        write(x, "h20910");
        due("fault()", x.fault(), 1);
        write(x, "x10910");
        due("house() of another third", x.house(), 2);
        due("its KIND", x.about(2, 0), 4);
    }

    static void p27_allHousesThatCame() {
        TownOnWeight x = new TownOnWeight();
        x.image();
        write(x, "h-0910");
        x.house();
        x.brake(0, true);
        x.restore();
        due("count(0)", x.count(0), 0);
        due("leaks()", x.leaks(), 0);
        due("look()", x.look(), NONE);
        refused("wants(0)", x, UNKNOWN, t -> t.wants(0));
        due("digest()", x.digest(), new TownOnWeight().digest());
        write(x, "c-0990");
        due("house()", x.house(), 0);
        due("it has no BRAKE", x.wants(0), 9);
    }

    static void p27_lengthAndWhatHangs() {
        TownOnWeight x = townOf(40, "h-0930");
        x.hour();
        x.image();
        x.night();
        x.length(99);
        x.hour();
        due("restore()", x.restore(), 37);
        due("LENGTH", x.count(1), 40);
        due("HANGS", x.count(2), 37);
        due("night()", x.night(), 3);
        due("all HANG", x.count(2), 40);
    }

    static void p27_theHourTakenAndLost() {
        TownOnWeight x = town("h-0931", "c-0910");
        hours(x, 3);
        x.image();
        hours(x, 6);
        x.restore();
        dueCounts("HOUR 3", x, 2, 60, 45, 3, 12, 3, 0);
        dueOfEach("TAKEN", x, 6, 9, 3);
        dueParts("15 by 12", x, 11, 4);
        x.night();
        x.restore();
        dueCounts("HOUR 3 again", x, 2, 60, 45, 3, 12, 3, 0);
        dueOfEach("TAKEN again", x, 6, 9, 3);
    }

    static void p27_owed() {
        TownOnWeight x = town("h-0930");
        hours(x, 9);
        x.night();
        x.image();
        hours(x, 9);
        x.night();
        due("OWES", x.about(0, 7), 54);
        x.restore();
        due("OWES as kept", x.about(0, 7), 27);
    }

    static void p27_whoWorkedInTheLastHour() {
        TownOnWeight x = town("s-0930", "h-0110");
        x.hour();
        x.image();
        x.hour();
        due("worked()", x.worked(), 1);
        x.restore();
        due("worked() as kept", x.worked(), 3);
        due("wants(0), one less", x.wants(0), 2);
        x.night();
        due("worked() behind a NIGHT", x.worked(), 0);
        x.image();
        x.hour();
        x.restore();
        due("worked() in the morning", x.worked(), 0);
        due("wants(0) in the morning", x.wants(0), 3);
    }

    static void p27_brakesAndRain() {
        TownOnWeight x = town("h-0930", "h-0910");
        x.brake(0, true);
        x.rain(true);
        x.image();
        x.brake(0, false);
        x.brake(1, true);
        x.rain(false);
        x.restore();
        dueOfEach("BRAKE", x, 8, 1, 0);
        due("RAIN", x.count(7), 1);
        x.brake(0, false);
        x.rain(false);
        x.image();
        x.brake(0, true);
        x.rain(true);
        x.restore();
        dueOfEach("no BRAKE", x, 8, 0, 0);
        due("no RAIN", x.count(7), 0);
    }

    static void p27_readings() {
        TownOnWeight x = town("h-0910", "h-0910");
        x.read(1, 3);
        x.image();
        x.wipe();
        for (int i = 0; i < 8; i++) {
            x.read(2, 5);
        }
        due("leak(1)", x.leak(1), 4);
        x.restore();
        due("count(8)", x.count(8), 1);
        due("leak(0)", x.leak(0), 2);
        due("leak(1)", x.leak(1), NONE);
        due("read(1, 3)", x.read(1, 3), 2);
        x.wipe();
        x.image();
        x.read(1, 1);
        x.restore();
        due("none", x.count(8), 0);
        due("leaks()", x.leaks(), 3);
    }

    static void p27_whetherItIsDown() {
        TownOnWeight x = townOf(9, "c-0950");
        x.image();
        hours(x, 2);
        due("DOWN", x.count(6), 1);
        due("restore() to the morning", x.restore(), 9);
        due("not DOWN", x.count(6), 0);
        hours(x, 2);
        x.image();
        x.night();
        due("restore() to DOWN", x.restore(), 0);
        due("DOWN again", x.count(6), 1);
        refused("hour()", x, STATE, TownOnWeight::hour);
        due("more(99)", x.more(99), 0);
    }

    static void p27_thePageIsNotKept() {
        TownOnWeight x = town("h-0910");
        x.letters(text("c-0"));
        x.image();
        x.letters(text("921"));
        x.restore();
        due("count(9)", x.count(9), 6);
        due("house() of all six letters", x.house(), 1);
        due("TAKES", x.about(1, 4), 2);
        x.restore();
        due("the page is empty as it was", x.count(9), 0);
    }

    static void p27_itGoesOnAsItDid() {
        TownOnWeight x = townOf(45, "c-0921", "u01930", "s12840", "x-0412");
        x.rain(true);
        hours(x, 2);
        x.image();
        long[] first = new long[9];
        for (int i = 0; i < 9; i++) {
            first[i] = i == 7 ? x.night() : x.hour();
            first[i] = 31 * x.digest() + first[i];
        }
        x.restore();
        for (int i = 0; i < 9; i++) {
            long again = i == 7 ? x.night() : x.hour();
            due("call " + i, 31 * x.digest() + again, first[i]);
        }
    }

    // ---- promise 28

    static void p28_leastAndGreatest() {
        dueCounts("new", new TownOnWeight(), 0, 60, 60, 0, 0, 0, 0, 0, 0, 0);
        TownOnWeight x = townOf(99, eight("c-0990"));
        for (int i = 0; i < 8; i++) {
            x.read(255, 199);
        }
        write(x, "abcdefghijkl");
        x.rain(true);
        dueCounts("morning", x, 8, 99, 99, 0, 0, 0, 0, 1, 8, 12);
        hours(x, 9);
        // 80 go in HOUR 0, 72 of them TAKEN; in HOUR 1 it is DOWN
        dueCounts("DOWN", x, 8, 99, 0, 2, 72, 27, 1, 1, 8, 12);
        TownOnWeight least = townOf(1);
        dueCounts("LENGTH 1", least, 0, 1, 1, 0, 0, 0, 0, 0, 0, 0);
    }

    static void p28_hoursFrom0To9() {
        TownOnWeight x = town("h-0910");
        for (int hour = 0; hour <= 9; hour++) {
            due("count(3)", x.count(3), hour);
            x.hour();
        }
        due("count(3) when the DAY is over", x.count(3), 9);
        x.night();
        due("count(3) behind a NIGHT", x.count(3), 0);
    }

    static void p28_takenAndLostAreOfTheDay() {
        TownOnWeight x = town("h-0931", "c-0910");
        hours(x, 2);
        due("TAKEN", x.count(4), 8);
        due("LOST", x.count(5), 2);
        x.night();
        due("TAKEN behind a NIGHT", x.count(4), 0);
        due("LOST behind a NIGHT", x.count(5), 0);
        x.hour();
        due("TAKEN of the next DAY", x.count(4), 4);
    }

    static void p28_whatIs0To9() {
        TownOnWeight x = town("h-0910");
        due("count(0)", x.count(0), 1);
        due("count(9)", x.count(9), 0);
        refused("count(-1)", x, OUTSIDE, t -> t.count(-1));
        refused("count(10)", x, OUTSIDE, t -> t.count(10));
        for (int far : FAR) {
            refused("count(" + far + ")", x, OUTSIDE, t -> t.count(far));
        }
    }

    // ---- promise 29

    static void p29_ofNothing() {
        TownOnWeight x = new TownOnWeight();
        long due = mixed(601, 0, 0, 0, 0, 0, 0, NONE, 0, 60, 60, 0, 0, 0, 0, 0, 0, 0);
        due("digest()", x.digest(), due);
        dueDigest("new", x, "");
    }

    static void p29_eachLetterOfThePage() {
        TownOnWeight x = town("h-0910");
        dueDigest("no letters", x, "");
        x.letters(1);
        dueDigest("one of code 1", x, "\u0001");
        x.letters(126);
        dueDigest("one more of code 126", x, "\u0001~");
        x.letters(text("h-091012"));
        x.letters(text("zz"));
        dueDigest("twelve", x, "\u0001~h-091012zz");
        x.blank();
        dueDigest("blank", x, "");
        TownOnWeight ab = new TownOnWeight();
        ab.letters(text("ab"));
        TownOnWeight ba = new TownOnWeight();
        ba.letters(text("ba"));
        due("the order of letters counts", ab.digest() == ba.digest() ? 1 : 0, 0);
    }

    static void p29_moreBy9() {
        TownOnWeight x = townOf(1, "h-0910", "h-0910");
        for (int feet = 8; feet <= 10; feet++) {
            due("more(" + feet + ")", x.more(feet), feet);
        }
        dueDigest("9 feet more", x, "");
    }

    private static TownOnWeight eightOfAllKinds() {
        TownOnWeight x = townOf(99, "h-0912", "c00923", "u10934", "s20945", "x30956", "h-1967", "c-0218", "s50999");
        x.rain(true);
        x.read(3, 9);
        x.read(129, 30);
        x.letters(text("hx"));
        return x;
    }

    static void p29_wrapsAsLongs() {
        for (int hour = 0; hour <= 9; hour++) {
            TownOnWeight x = eightOfAllKinds();
            hours(x, hour);
            dueDigest("HOUR " + hour, x, "hx");
        }
        TownOnWeight next = eightOfAllKinds();
        hours(next, 2);
        next.night();
        next.brake(2, true);
        next.brake(7, true);
        dueDigest("the next morning", next, "hx");
    }

    static void p29_itChangesNothing() {
        TownOnWeight x = townOf(30, "c-0920", "s00931", "h-0940");
        hours(x, 2);
        TownOnWeight y = townOf(30, "c-0920", "s00931", "h-0940");
        hours(y, 2);
        x.digest();
        x.digest();
        for (int hour = 2; hour <= 8; hour++) {
            due("hour()", x.hour(), y.hour());
            due("worked()", x.worked(), y.worked());
        }
        due("night()", x.night(), y.night());
        due("digest()", x.digest(), y.digest());
    }
}
