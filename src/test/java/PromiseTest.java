/** One method for each promise of the document; every due answer is worked out by hand from its words. */
public final class PromiseTest extends Check {
    public static void main(String[] args) {
        newObject();
        letters();
        blank();
        fault();
        house();
        about();
        as();
        length();
        brake();
        rain();
        wants();
        goes();
        hour();
        worked();
        part();
        night();
        plan();
        more();
        missing();
        rest();
        read();
        wipe();
        leaks();
        leak();
        look();
        image();
        restore();
        count();
        digest();
        finish("checks of promises");
    }

    // ---- houses

    private static void newObject() {
        TownOnWeight x = new TownOnWeight();
        int[] counts = {0, 60, 60, 0, 0, 0, 0, 0, 0, 0};
        for (int what = 0; what < counts.length; what++) {
            due("new: count(" + what + ")", x.count(what), counts[what]);
        }
        due("new: worked()", x.worked(), 0);
        due("new: goes(0)", x.goes(0), 0);
        due("new: plan(0)", x.plan(0), 0);
        due("new: plan(1)", x.plan(1), 0);
        due("new: leaks()", x.leaks(), 0);
        due("new: look()", x.look(), NONE);
        due("new: restore()", x.restore(), STATE);
        TownOnWeight other = new TownOnWeight();
        other.length(7);
        due("new: objects are apart", x.count(1), 60);
    }

    private static void letters() {
        TownOnWeight x = new TownOnWeight();
        due("letters(0)", x.letters(0), 0);
        due("letters of one", x.letters(1), 1);
        due("letters of 126", x.letters(126), 2);
        due("letters of eight", x.letters(text("abcdefgh")), 10);
        refused("letters above 12", x, FULL, t -> t.letters(text("abc")));
        due("letters of two more", x.letters(text("hi")), 12);
        due("letters(0) on a full page", x.letters(0), 12);
        refused("letters on a full page", x, FULL, t -> t.letters('a'));
        refused("letters: OUTSIDE goes ahead of FULL", x, OUTSIDE, t -> t.letters(127));
        TownOnWeight y = new TownOnWeight();
        y.letters(text("h"));
        refused("letters: 127", y, OUTSIDE, t -> t.letters(127));
        refused("letters: 128", y, OUTSIDE, t -> t.letters(128));
        refused("letters: 255", y, OUTSIDE, t -> t.letters(255));
        refused("letters: -1", y, OUTSIDE, t -> t.letters(-1L));
        refused("letters: MIN_VALUE", y, OUTSIDE, t -> t.letters(Long.MIN_VALUE));
        refused("letters: 127 behind good ones", y, OUTSIDE, t -> t.letters(127L << 56 | text("abcdefg")));
        refused("letters: one behind a 0", y, OUTSIDE, t -> t.letters(97L << 16 | 97L));
        refused("letters: one behind a first 0", y, OUTSIDE, t -> t.letters(256L));
        refused("letters: the last byte behind a 0", y, OUTSIDE, t -> t.letters(1L << 56 | text("abcdef")));
        due("letters: the lowest byte first", y.letters(text("-0910")), 6);
        due("letters: come behind those on the page", y.house(), 0);
    }

    private static void blank() {
        TownOnWeight x = new TownOnWeight();
        due("blank() of nothing", x.blank(), 0);
        write(x, "h-0910zzzzzz");
        due("blank()", x.blank(), 12);
        due("blank(): empty", x.count(9), 0);
        due("blank() again", x.blank(), 0);
        due("letters behind blank()", x.letters(text("h-0910")), 6);
        due("house behind blank()", x.house(), 0);
    }

    private static void fault() {
        String[][] pages = {
            {"", "0"}, {"h", "1"}, {"c", "1"}, {"u", "1"}, {"s", "1"}, {"x", "1"}, {"a", "0"}, {"H", "0"}, {"-", "0"},
            {"0", "0"}, {"h-", "2"}, {"h0", "2"}, {"h1", "2"}, {"h2", "1"}, {"h9", "1"}, {"h/", "1"}, {"h:", "1"},
            {"hh", "1"}, {"h-0", "3"}, {"h-8", "3"}, {"h-9", "2"}, {"h--", "2"}, {"h-/", "2"}, {"h-01", "4"},
            {"h-00", "3"}, {"h-09", "4"}, {"h-0:", "3"}, {"h-43", "3"}, {"h-44", "3"}, {"h-45", "4"}, {"h-89", "4"},
            {"h-88", "3"}, {"h-450", "4"}, {"h-451", "5"}, {"h-459", "5"}, {"h-45:", "4"}, {"h-45/", "4"},
            {"h-4510", "6"}, {"h-4519", "6"}, {"h-451:", "5"}, {"h-451/", "5"}, {"h-451-", "5"}, {"h-45100", "6"},
            {"h-451000000", "6"}, {"h5451000000", "1"}, {"zh-4510", "0"}, {"h-451", "5"}, {"\u0001", "0"}};
        for (String[] page : pages) {
            TownOnWeight x = town("h-0910", "c00910");
            write(x, page[0]);
            due("fault() of " + page[0], x.fault(), Long.parseLong(page[1]));
            due("fault() keeps the page", x.count(9), page[0].length());
        }
        TownOnWeight none = new TownOnWeight();
        write(none, "h0");
        due("fault(): no parent among no houses", none.fault(), 1);
        TownOnWeight full = fullTown();
        write(full, "h70910");
        due("fault() by eight houses", full.fault(), 6);
        write(full, "h80910");
        due("fault(): nothing hangs on 8", full.fault(), 1);
        TownOnWeight back = town("h-0910");
        back.image();
        write(back, "h-0910");
        back.house();
        write(back, "h10910");
        due("fault() ahead of restore()", back.fault(), 6);
        back.restore();
        due("fault() behind restore()", back.fault(), 1);
    }

    private static void house() {
        TownOnWeight x = new TownOnWeight();
        refused("house() of nothing", x, STATE, TownOnWeight::house);
        for (String page : new String[] {"h", "h-091", "h-09100", "h00910", "a-0910", "h-9910", "h-0010", "h-0900", "h-091x"}) {
            write(x, page);
            refused("house() of " + page, x, STATE, TownOnWeight::house);
            due("house(): the page stays", x.count(9), page.length());
        }
        write(x, "x-0910");
        due("house()", x.house(), 0);
        due("house(): the page is empty", x.count(9), 0);
        due("house(): one", x.count(0), 1);
        refused("house() of an empty page", x, STATE, TownOnWeight::house);
        write(x, "h00910");
        x.hour();
        refused("house() in HOUR 1", x, STATE, TownOnWeight::house);
        x.night();
        due("house() by the next morning", x.house(), 1);
        TownOnWeight full = fullTown();
        write(full, "h-0910");
        refused("house() of a ninth", full, FULL, TownOnWeight::house);
        due("house(): FULL keeps the page", full.count(9), 6);
        write(full, "h-091");
        refused("house(): STATE goes ahead of FULL", full, STATE, TownOnWeight::house);
        write(full, "h-0910");
        full.hour();
        refused("house(): STATE of the day goes ahead of FULL", full, STATE, TownOnWeight::house);
    }

    private static void about() {
        TownOnWeight x = town("h-0910", "c03521", "u14632", "s25743", "x38999");
        int[][] told = {{0, NONE, 0, 9, 1, 0}, {1, 0, 3, 5, 2, 1}, {2, 1, 4, 6, 3, 2}, {3, 2, 5, 7, 4, 3}, {4, 3, 8, 9, 9, 9}};
        for (int h = 0; h < told.length; h++) {
            for (int what = 0; what < 6; what++) {
                due("about(" + h + ", " + what + ")", x.about(h, what), told[h][what]);
            }
            for (int what = 6; what <= 8; what++) {
                due("about(" + h + ", " + what + ") of a new one", x.about(h, what), 0);
            }
        }
        hours(x, 4);
        due("about: TAKEN", x.about(0, 6), 4);
        due("about: TAKEN by the clock", x.about(1, 6), 2);
        due("about: OWES not yet", x.about(0, 7), 0);
        x.brake(4, true);
        due("about: BRAKE", x.about(4, 8), 1);
        due("about: no BRAKE", x.about(3, 8), 0);
        x.night();
        due("about: TAKEN in a new day", x.about(0, 6), 0);
        due("about: OWES", x.about(0, 7), 5);
        due("about: BRAKE stays by night", x.about(4, 8), 1);
        refused("about(5, 0)", x, UNKNOWN, t -> t.about(5, 0));
        for (int h : WRONG_HOUSES) {
            refused("about(" + h + ", 0)", x, UNKNOWN, t -> t.about(h, 0));
        }
        refused("about(0, -1)", x, OUTSIDE, t -> t.about(0, -1));
        refused("about(0, 9)", x, OUTSIDE, t -> t.about(0, 9));
        refused("about(5, 9): UNKNOWN goes ahead", x, UNKNOWN, t -> t.about(5, 9));
    }

    private static void as() {
        TownOnWeight x = town("h-0910", "c-0910", "u-0910", "s-0910", "x-0910");
        int[] kinds = {1, 3, 5, 9, 21};
        for (int h = 0; h < kinds.length; h++) {
            for (int kind = 0; kind < 5; kind++) {
                due("as(" + h + ", " + kind + ")", x.as(h, kind), (kinds[h] >> kind & 1) != 0 ? h : NONE);
            }
        }
        refused("as(5, 0)", x, UNKNOWN, t -> t.as(5, 0));
        for (int h : WRONG_HOUSES) {
            refused("as(" + h + ", 0)", x, UNKNOWN, t -> t.as(h, 0));
        }
        refused("as(0, 5)", x, OUTSIDE, t -> t.as(0, 5));
        refused("as(0, -1)", x, OUTSIDE, t -> t.as(0, -1));
        refused("as(5, 5): UNKNOWN goes ahead", x, UNKNOWN, t -> t.as(5, 5));
    }

    private static void length() {
        TownOnWeight x = town("h-0910");
        due("length(1)", x.length(1), 60);
        due("length(99)", x.length(99), 1);
        due("length: LENGTH", x.count(1), 99);
        due("length: all HANGS", x.count(2), 99);
        refused("length(0)", x, OUTSIDE, t -> t.length(0));
        refused("length(100)", x, OUTSIDE, t -> t.length(100));
        refused("length(-5)", x, OUTSIDE, t -> t.length(-5));
        x.hour();
        refused("length in HOUR 1", x, STATE, t -> t.length(50));
        refused("length: OUTSIDE goes ahead of STATE", x, OUTSIDE, t -> t.length(0));
        hours(x, 8);
        refused("length when the day is over", x, STATE, t -> t.length(50));
        x.night();
        due("length by the next morning", x.length(50), 99);
        x.hour();
        due("length: the night winds up so much", x.night(), 1);
        due("length: all hangs then", x.count(2), 50);
    }

    private static void brake() {
        TownOnWeight x = town("h-0910", "h-0920");
        due("brake(1, false) of none", x.brake(1, false), 0);
        due("brake(1, true)", x.brake(1, true), 0);
        due("brake(1, true) again", x.brake(1, true), 1);
        due("brake: of this one alone", x.about(0, 8), 0);
        due("brake: it wants nothing", x.wants(1), 0);
        due("brake: the other does", x.wants(0), 1);
        x.hour();
        due("brake: who worked", x.worked(), 1);
        due("brake(1, false)", x.brake(1, false), 1);
        due("brake: it is off", x.about(1, 8), 0);
        due("brake: it wants again", x.wants(1), 2);
        for (int h : WRONG_HOUSES) {
            refused("brake(" + h + ", true)", x, UNKNOWN, t -> t.brake(h, true));
        }
        refused("brake(2, true)", x, UNKNOWN, t -> t.brake(2, true));
    }

    private static void rain() {
        TownOnWeight x = town("h-0911");
        due("rain(false) of none", x.rain(false), 0);
        due("rain(true)", x.rain(true), 0);
        due("rain: there is", x.count(7), 1);
        due("rain: more is lost", x.goes(1), 3);
        due("rain(true) again", x.rain(true), 1);
        x.hour();
        x.night();
        due("rain stays by night", x.count(7), 1);
        due("rain(false)", x.rain(false), 1);
        due("rain: there is none", x.count(7), 0);
        due("rain: no more is lost", x.goes(1), 2);
    }

    // ---- a day

    private static void wants() {
        TownOnWeight x = town("h-2430", "c-2430", "u-2430", "s-2430", "x-2430", "s-0910", "u-8990", "h-0930");
        int[][] due = {
            {0, 0, 0, 0, 0, 1, 0, 3}, {0, 0, 0, 0, 0, 0, 0, 3}, {3, 3, 6, 3, 6, 1, 0, 3}, {3, 3, 3, 2, 3, 0, 0, 3},
            {0, 0, 0, 0, 0, 1, 0, 3}, {0, 0, 0, 0, 0, 0, 0, 3}, {0, 0, 0, 0, 0, 1, 0, 3}, {0, 0, 0, 0, 0, 0, 0, 3},
            {0, 0, 0, 0, 0, 1, 18, 3}, {0, 0, 0, 0, 0, 0, 0, 0}};
        x.length(99);
        for (int hour = 0; hour <= 9; hour++) {
            for (int h = 0; h < 8; h++) {
                due("wants(" + h + ") in HOUR " + hour, x.wants(h), due[hour][h]);
            }
            x.hour();
        }
        for (int h : WRONG_HOUSES) {
            refused("wants(" + h + ")", x, UNKNOWN, t -> t.wants(h));
        }
        refused("wants of no houses", new TownOnWeight(), UNKNOWN, t -> t.wants(0));
        TownOnWeight late = town("u-0920", "s-0920");
        late.brake(0, true);
        late.brake(1, true);
        late.hour();
        late.brake(0, false);
        late.brake(1, false);
        due("wants: HUNGRY twice in HOUR FROM alone", late.wants(0), 2);
        due("wants: STORING that did not work", late.wants(1), 2);
        late.hour();
        late.night();
        due("wants: STORING by the next morning", late.wants(1), 2);
        TownOnWeight down = town("c-0990");
        hours(down, 7);
        due("wants: it is DOWN", down.count(6), 1);
        due("wants when it is DOWN", down.wants(0), 9);
    }

    private static void goes() {
        TownOnWeight x = town("h-0912", "h00923", "x10934", "c20945", "h-1956", "s00910");
        due("goes(0)", x.goes(0), 0);
        due("goes by one", x.goes(1), 3);
        due("goes by the ways from above", x.goes(2), 2 + 2 + 3);
        due("goes: nothing lost in a SECRET's shaft", x.goes(4), 6 + 2 + 3);
        due("goes through a SECRET's shaft", x.goes(8), 4 + 2 + 3 + 5);
        due("goes: each shaft once", x.goes(15), 1 + 2 + 6 + 4 + 2 + 3 + 5);
        due("goes: who wants nothing is passed over", x.goes(16), 0);
        due("goes: with others", x.goes(17), 3);
        due("goes by all", x.goes(63), 23 + 1);
        x.rain(true);
        due("goes in RAIN", x.goes(8), 4 + 3 + 4 + 6);
        due("goes in RAIN by a SECRET", x.goes(4), 6 + 3 + 4);
        due("goes in RAIN where nothing goes", x.goes(16), 0);
        x.brake(3, true);
        due("goes by one with a BRAKE", x.goes(8), 0);
        x.brake(0, true);
        due("goes through the shaft of one with a BRAKE", x.goes(2), 2 + 3 + 4);
        x.brake(0, false);
        refused("goes(64)", x, OUTSIDE, t -> t.goes(64));
        refused("goes(-1)", x, OUTSIDE, t -> t.goes(-1));
        refused("goes(MIN_VALUE)", x, OUTSIDE, t -> t.goes(Integer.MIN_VALUE));
        refused("goes(1) of no houses", new TownOnWeight(), OUTSIDE, t -> t.goes(1));
        x.hour();
        due("goes: a STORING that wants nothing is passed over", x.goes(32), 0);
        TownOnWeight y = town("h-0911");
        hours(y, 9);
        due("goes when the day is over", y.goes(1), 0);
    }

    private static void hour() {
        TownOnWeight x = town("h-0952", "c-0941", "h-0930");
        x.length(40);
        due("hour() of all", x.hour(), 15);
        due("hour: HANGS", x.count(2), 25);
        due("hour: TAKEN", x.count(4), 12);
        due("hour: LOST", x.count(5), 3);
        due("hour: HOUR", x.count(3), 1);
        due("hour() that takes just what is left of them", x.hour(), 15);
        due("hour() by which the greatest stops, then the next", x.hour(), 5);
        due("hour: the clock alone", x.worked(), 2);
        due("hour() that leaves nothing", x.hour(), 5);
        due("hour: not DOWN", x.count(6), 0);
        due("hour() by which it is DOWN", x.hour(), 0);
        due("hour: DOWN", x.count(6), 1);
        due("hour: nobody works", x.worked(), 0);
        due("hour: the next HOUR all the same", x.count(3), 5);
        refused("hour() when it is DOWN", x, STATE, TownOnWeight::hour);
        TownOnWeight y = town("c-0940", "c-0931");
        y.length(11);
        due("hour() of clocks", y.hour(), 8);
        due("hour() by which what HANGS is LOST", y.hour(), 3);
        due("hour: LOST", y.count(5), 1 + 3);
        due("hour: TAKEN stays", y.count(4), 7);
        due("hour: nothing HANGS", y.count(2), 0);
        due("hour: it is DOWN", y.count(6), 1);
        TownOnWeight z = new TownOnWeight();
        for (int h = 0; h < 9; h++) {
            due("hour() of nobody", z.hour(), 0);
        }
        due("hour: the day is over", z.count(3), 9);
        refused("hour() when the day is over", z, STATE, TownOnWeight::hour);
        TownOnWeight s = town("h-0930", "c-0920", "h-0930", "h-0910");
        s.length(6);
        due("hour(): who has less is passed, if a greater number may stop", s.hour(), 5);
        due("hour: the clock and the least", s.worked(), 3);
        TownOnWeight last = town("c-8990");
        last.length(8);
        hours(last, 8);
        due("hour() 8 by which it is DOWN", last.hour(), 8);
        due("hour: DOWN and over", last.count(6) * 10 + last.count(3), 19);
    }

    private static void worked() {
        TownOnWeight x = town("h-0110", "s-0910", "u-1310");
        due("worked() when there was none", x.worked(), 0);
        x.hour();
        due("worked()", x.worked(), 3);
        x.hour();
        due("worked(): a STORING that wants nothing does not", x.worked(), 4);
        x.hour();
        due("worked() in the third", x.worked(), 6);
        hours(x, 6);
        due("worked() when the day is over", x.worked(), 2);
        x.night();
        due("worked() by the next morning", x.worked(), 0);
    }

    private static void part() {
        TownOnWeight x = town("h-0132", "h-0131", "h-0110", "h-2910");
        due("part ahead of the first hour", x.part(0), 0);
        x.hour();
        // DEPTH 10 by 7: 30/7 = 4 rest 2, 30/7 = 4 rest 2, 10/7 = 1 rest 3; the one left goes to the third
        due("part(0)", x.part(0), 4);
        due("part(1)", x.part(1), 4);
        due("part(2) with the greatest rest", x.part(2), 2);
        due("part(3) of nothing", x.part(3), 0);
        TownOnWeight y = town("h-0111", "h-0111", "h-0110");
        y.hour();
        // DEPTH 5 by 3: 1 rest 2 each; two are left and go to the least
        due("part: of like rests the least", y.part(0) * 100 + y.part(1) * 10 + y.part(2), 221);
        TownOnWeight one = town("h-0113", "h-2911");
        one.hour();
        due("part: all of DEPTH for one foot", one.part(0) * 10 + one.part(1), 40);
        TownOnWeight z = town("c-0390");
        z.length(5);
        z.hour();
        due("part: DEPTH, but nothing TAKEN", z.part(0), 0);
        due("part: DEPTH is 5", z.night(), 5);
        due("part: nothing is owed", z.about(0, 7), 0);
        for (int h : WRONG_HOUSES) {
            refused("part(" + h + ")", x, UNKNOWN, t -> t.part(h));
        }
        refused("part(4)", x, UNKNOWN, t -> t.part(4));
    }

    private static void night() {
        TownOnWeight x = town("h-0132", "h-0131", "h-0110");
        x.brake(2, true);
        x.brake(2, false);
        due("night() in HOUR 0", x.night(), 0);
        x.hour();
        due("night()", x.night(), 10);
        int[] counts = {3, 60, 60, 0, 0, 0, 0, 0, 0, 0};
        for (int what = 0; what < counts.length; what++) {
            due("night: count(" + what + ")", x.count(what), counts[what]);
        }
        due("night: OWES", x.about(0, 7) * 100 + x.about(1, 7) * 10 + x.about(2, 7), 442);
        due("night: TAKEN", x.about(0, 6), 0);
        x.hour();
        x.night();
        due("night: OWES more", x.about(0, 7) * 100 + x.about(1, 7) * 10 + x.about(2, 7), 884);
        TownOnWeight y = town("u-0990", "h-0110");
        y.length(99);
        for (int i = 1; i <= 12; i++) {
            hours(y, 9);
            due("night: DEPTH", y.night(), 18 + 8 * 9 + 1);
            due("night: OWES, 999 at most", y.about(0, 7), Math.min(999, 90 * i));
            due("night: OWES of the other", y.about(1, 7), i);
        }
        TownOnWeight down = town("c-0990");
        down.length(5);
        down.hour();
        down.night();
        due("night: not DOWN any more", down.count(6), 0);
        due("night: all feet HANG", down.count(2), 5);
        due("night: an hour comes again", down.hour(), 5);
    }

    // ---- what would be

    private static void plan() {
        TownOnWeight x = town("h-0159", "h-1940", "h-2310");
        x.length(17);
        // without a brake: 14 go down for 5, then 3 HANG: the second and third stop
        x.image();
        hours(x, 9);
        due("plan: what comes without it", x.count(4), 5);
        x.restore();
        // with a brake on the first: 4 an hour, and 1 for the third: 4, 5, 4, 4 (17 in all)
        due("plan(0)", x.plan(0), 17);
        due("plan(1)", x.plan(1), 1);
        x.brake(1, true);
        due("plan: no others have BRAKES", x.plan(0) * 10 + x.plan(1), 171);
        due("plan leaves BRAKES as they are", x.about(1, 8) * 10 + x.about(0, 8), 10);
        due("plan leaves HOURS as they are", x.count(3), 0);
        x.rain(true);
        // the second alone: 5 an hour, three of them; the third with it: 2 more, in place of none
        due("plan in RAIN", x.plan(0), 13);
        due("plan in RAIN, who", x.plan(1), 1);
        TownOnWeight like = town("h-0120", "h-0120", "h-0120");
        like.length(4);
        due("plan: of like ones the fewest", like.plan(0) * 10 + like.plan(1), 40);
        TownOnWeight fewest = town("h-1250", "h-0110", "h-0231");
        fewest.length(8);
        // without the first two the third takes 3 and 3; without the third they take 1 and 5
        due("plan: the fewest go ahead of the least bits", fewest.plan(0) * 10 + fewest.plan(1), 64);
        TownOnWeight bits = town("h-0121", "h-0130", "h-0121", "c-0110");
        bits.length(4);
        due("plan: a brake for one is enough", bits.plan(0) * 10 + bits.plan(1), 41);
        TownOnWeight two = town("h-0119", "h-0119", "h-0190");
        two.length(19);
        // 1 and 9 lost leave 9: either of the first two may have the brake
        due("plan: then the least bits", two.plan(0) * 10 + two.plan(1), 101);
        TownOnWeight down = town("c-0920", "c-0920");
        down.length(3);
        due("plan: clocks may have BRAKES", down.plan(0) * 10 + down.plan(1), 21);
        down.hour();
        due("plan when it is DOWN", down.plan(0) * 10 + down.plan(1), 0);
        hours(x, 9);
        due("plan when the day is over", x.plan(0) * 10 + x.plan(1), 0);
        refused("plan(-1)", x, OUTSIDE, t -> t.plan(-1));
        refused("plan(2)", x, OUTSIDE, t -> t.plan(2));
        refused("plan(2) of no houses", new TownOnWeight(), OUTSIDE, t -> t.plan(2));
    }

    private static void more() {
        TownOnWeight x = town("h-0940");
        x.length(10);
        due("more(0)", x.more(0), 0);
        due("more(1)", x.more(1), 0);
        due("more(2)", x.more(2), 4);
        due("more(99)", x.more(99), 28);
        due("more changes nothing", x.count(2), 10);
        x.brake(0, true);
        due("more by BRAKES as they are", x.more(99), 0);
        x.brake(0, false);
        x.rain(true);
        due("more in RAIN", x.more(5), 4);
        hours(x, 9);
        due("more when the day is over", x.more(99), 0);
        TownOnWeight less = town("h-0940", "h-0119");
        less.length(13);
        // as it is, the second stops and 3 hours of 4 come; with 1 more it works, 14 go, and none comes
        due("more that is less", less.more(1), 5 - 12);
        TownOnWeight down = town("c-0990");
        down.length(5);
        due("more by which it is not DOWN", down.more(4), 9);
        down.hour();
        due("more when it is DOWN", down.more(99), 0);
        refused("more(-1)", x, OUTSIDE, t -> t.more(-1));
        refused("more(100)", x, OUTSIDE, t -> t.more(100));
    }

    private static void missing() {
        TownOnWeight x = town("h-0310", "u-0520", "x-0930", "s-0930", "h-1950", "c-0910");
        // open in HOUR 0: 1, 2, 3, 3, 1 (of 0, 1, 2, 3, 5)
        due("missing(1, 0)", x.missing(1, 0), 2);
        due("missing(1, 1)", x.missing(1, 1), 0);
        due("missing(1, 2)", x.missing(1, 2), 33);
        // 2: the second; the first and the clock
        due("missing(2, 0)", x.missing(2, 0), 2);
        due("missing(2, 2)", x.missing(2, 2), 35);
        // 9: all but the first; all but the clock
        due("missing(9, 0)", x.missing(9, 0), 2);
        due("missing(9, 1)", x.missing(9, 1), 14);
        due("missing(9, 2)", x.missing(9, 2), 47);
        due("missing(10, 1): all", x.missing(10, 1), 47);
        due("missing(11, 0): none", x.missing(11, 0), 0);
        due("missing(11, 1): none", x.missing(11, 1), 0);
        due("missing(11, 2): none", x.missing(11, 2), 0);
        due("missing(72, 0): none", x.missing(72, 0), 0);
        x.brake(1, true);
        due("missing: with BRAKES or without", x.missing(10, 1), 47);
        x.brake(1, false);
        hours(x, 4);
        due("missing in HOUR 4: the first is gone, the fifth is there", x.missing(14, 1), 62);
        due("missing: TAKES, whatever it WANTS", x.missing(3, 2), 2 + 4 + 8 + 32);
        x.hour();
        due("missing in HOUR 5: ahead of TO", x.missing(2, 0), 0);
        hours(x, 4);
        // 9: the fifth, the clock and one of the two that take 3
        due("missing when it is DOWN: as the HOUR is", x.missing(9, 1) * 10 + x.count(6), 481);
        TownOnWeight over = town("h-0930");
        hours(over, 8);
        due("missing in the last HOUR", over.missing(3, 0), 1);
        over.hour();
        due("missing when the day is over", over.missing(3, 0), 0);
        refused("missing(0, 0)", x, OUTSIDE, t -> t.missing(0, 0));
        refused("missing(73, 0)", x, OUTSIDE, t -> t.missing(73, 0));
        refused("missing(1, -1)", x, OUTSIDE, t -> t.missing(1, -1));
        refused("missing(1, 3)", x, OUTSIDE, t -> t.missing(1, 3));
        due("missing of no houses", new TownOnWeight().missing(1, 0), 0);
    }

    private static int rainyHours(long seed, int hours) {
        int rainy = 0;
        for (int h = 0; h < hours; h++) {
            seed = seedBehind(seed, 1);
            rainy += (seed >> 16) % 3 == 0 ? 1 : 0;
        }
        return rainy;
    }

    private static long seedBehind(long seed, int draws) {
        for (int i = 0; i < draws; i++) {
            seed = (1103515245L * seed + 12345L) & 0x7fffffffL;
        }
        return seed;
    }

    private static void rest() {
        TownOnWeight x = town("h-0910");
        x.length(99);
        for (int seed : new int[] {0, 1, 2, 3, 77, 65536, 123456789, Integer.MAX_VALUE}) {
            due("rest(" + seed + ", 0)", x.rest(seed, 0), 9);
            due("rest(" + seed + ", 1)", x.rest(seed, 1), 90 - rainyHours(seed, 9));
            due("rest(" + seed + ", 2)", x.rest(seed, 2), NONE);
            due("rest(" + seed + ", 3)", x.rest(seed, 3), seedBehind(seed, 9));
        }
        due("rest changes nothing", x.count(3) * 1000 + x.count(2), 99);
        x.rain(true);
        due("rest: RAIN by the draws alone", x.rest(1, 1), 90 - rainyHours(1, 9));
        due("rest leaves RAIN as it is", x.count(7), 1);
        x.rain(false);
        hours(x, 3);
        due("rest: from now on", x.rest(1, 0), 6);
        due("rest: of the hours that come", x.rest(1, 3), seedBehind(1, 6));
        hours(x, 6);
        due("rest of a day that is over, TAKEN", x.rest(5, 0), 0);
        due("rest of a day that is over, HANGS", x.rest(5, 1), 90);
        due("rest of a day that is over, DOWN", x.rest(5, 2), NONE);
        due("rest of a day that is over, SEED", x.rest(5, 3), 5);
        TownOnWeight down = town("x-0110", "c02990");
        down.length(20);
        // HOUR 0: 2 by the SECRET; 2: 9 and the rain on the clock's shaft; 3: DOWN
        due("rest: TAKEN until it is DOWN", down.rest(1, 0), 11);
        due("rest: nothing HANGS then", down.rest(1, 1), 0);
        due("rest: DOWN in", down.rest(1, 2), 3);
        due("rest: no draw behind that", down.rest(1, 3), seedBehind(1, 4));
        due("rest leaves it as it is", down.count(6), 0);
        hours(down, 5);
        due("rest: it is DOWN now", down.count(6), 1);
        due("rest when it is DOWN already", down.rest(9, 2), NONE);
        due("rest when it is DOWN already, SEED", down.rest(9, 3), 9);
        due("rest when it is DOWN already, HANGS", down.rest(9, 1), 0);
        refused("rest(-1, 0)", x, OUTSIDE, t -> t.rest(-1, 0));
        refused("rest(MIN_VALUE, 0)", x, OUTSIDE, t -> t.rest(Integer.MIN_VALUE, 0));
        refused("rest(0, -1)", x, OUTSIDE, t -> t.rest(0, -1));
        refused("rest(0, 4)", x, OUTSIDE, t -> t.rest(0, 4));
    }

    // ---- leaks

    private static void read() {
        TownOnWeight x = town("h-0910", "h-0910");
        due("read(1, 1)", x.read(1, 1), 1);
        due("read(3, 199)", x.read(3, 199), 2);
        refused("read(0, 5)", x, OUTSIDE, t -> t.read(0, 5));
        refused("read(4, 5)", x, OUTSIDE, t -> t.read(4, 5));
        refused("read(-1, 5)", x, OUTSIDE, t -> t.read(-1, 5));
        refused("read(1, 0)", x, OUTSIDE, t -> t.read(1, 0));
        refused("read(1, 200)", x, OUTSIDE, t -> t.read(1, 200));
        for (int i = 3; i <= 8; i++) {
            due("read: how many", x.read(2, 5), i);
        }
        refused("read: a ninth", x, FULL, t -> t.read(2, 5));
        refused("read: OUTSIDE goes ahead of FULL", x, OUTSIDE, t -> t.read(2, 0));
        due("read: count(8)", x.count(8), 8);
        x.hour();
        x.night();
        due("read: kept by night", x.count(8), 8);
        refused("read of no houses", new TownOnWeight(), OUTSIDE, t -> t.read(1, 5));
    }

    private static void wipe() {
        TownOnWeight x = town("h-0910", "h-0910");
        due("wipe() of none", x.wipe(), 0);
        x.read(1, 3);
        x.read(2, 3);
        due("wipe: ahead", x.leaks(), 0);
        due("wipe()", x.wipe(), 2);
        due("wipe: none are left", x.count(8), 0);
        due("wipe: LEAKS are all", x.leaks(), 3);
        due("wipe() again", x.wipe(), 0);
        due("wipe: the next is the first", x.read(1, 3), 1);
        due("wipe: it alone holds", x.leaks(), 1);
    }

    private static void leaks() {
        TownOnWeight x = town("h-0921", "x00932", "h10943", "h00954");
        due("leaks() without READINGS", x.leaks(), 15);
        // the third alone: 4 and 1 and 2 (of the SECRET, too) and 3, that is 10
        x.read(4, 12);
        due("leaks() by 2 on the way to the third", x.leaks(), 7);
        // the fourth alone: 5 and 1 and 4, that is 10: nothing more
        x.read(8, 10);
        due("leaks() not above the fourth", x.leaks(), 6);
        // the second alone: 3 and 1 and 2, that is 6
        x.read(2, 8);
        due("leaks() above the second", x.leaks(), 2);
        x.rain(true);
        hours(x, 2);
        due("leaks(): no RAIN, no HOUR", x.leaks(), 2);
        x.read(2, 9);
        due("leaks(): always the same number", x.leaks(), 0);
        TownOnWeight y = town("h-0110", "h-0110");
        y.read(1, 10);
        due("leaks() by 9", y.leaks(), 1);
        y.wipe();
        y.read(1, 11);
        due("leaks() by 10: none", y.leaks(), 0);
        y.wipe();
        y.read(1, 1);
        due("leaks(): not there", y.leaks(), 2);
        y.wipe();
        y.brake(0, true);
        y.read(3, 4);
        due("leaks(): of both, BRAKES or not", y.leaks(), 3);
        y.wipe();
        TownOnWeight less = town("h-0130");
        less.read(1, 2);
        due("leaks(): less than told", less.leaks(), 0);
        TownOnWeight hungry = town("u-0940", "s-0940");
        hungry.read(3, 9);
        due("leaks(): TAKES each, twice of nobody", hungry.leaks(), 3);
    }

    private static void leak() {
        TownOnWeight x = town("h-0921", "h00932", "h-0910");
        due("leak(0) without READINGS", x.leak(0), 1);
        x.read(2, 13);
        due("leak(0)", x.leak(0), 7);
        due("leak(1)", x.leak(1), 7);
        due("leak(2): not there", x.leak(2), NONE);
        x.read(1, 3);
        due("leak(0) by another reading", x.leak(0), NONE);
        due("leak(1) by another reading", x.leak(1), 7);
        x.wipe();
        x.read(1, 3);
        due("leak(1): the least", x.leak(1), 1);
        due("leak(0): nothing more goes", x.leak(0), NONE);
        x.wipe();
        x.read(4, 10);
        due("leak(2) of 9", x.leak(2), 9);
        for (int h : WRONG_HOUSES) {
            refused("leak(" + h + ")", x, UNKNOWN, t -> t.leak(h));
        }
        refused("leak(3)", x, UNKNOWN, t -> t.leak(3));
    }

    private static void look() {
        due("look() of no houses", new TownOnWeight().look(), NONE);
        due("look() of one house", town("h-0910").look(), 1);
        TownOnWeight x = town("h-0910", "h-0910", "h-0910", "h-0910");
        due("look(): half of them", x.look(), 3);
        TownOnWeight chain = town("h-0910", "h00910", "h10910", "h20910");
        due("look() in a chain: the second", chain.look(), 2);
        chain.read(4, 5);
        due("look(): LEAKS are three", chain.leaks(), 7);
        due("look() of three in a chain", chain.look(), 1);
        TownOnWeight odd = town("h-0910", "h-0910", "h-0910");
        due("look(): of like ones the least bits", odd.look(), 1);
        odd.read(1, 1);
        odd.read(2, 1);
        due("look(): one LEAK is left", odd.leaks(), 4);
        due("look(): whatever it would show, one", odd.look(), 1);
        odd.read(4, 1);
        due("look(): none is left", odd.look(), NONE);
        TownOnWeight tree = town("h-0910", "h00910", "h00910", "h-0910", "h30910", "h30910");
        due("look() in two trees: one of them", tree.look(), 6);
    }

    // ---- what is told of all

    private static void image() {
        TownOnWeight x = town("h-0910");
        due("image()", x.image(), 60);
        x.hour();
        due("image() in HOUR 1", x.image(), 59);
        hours(x, 3);
        due("image: the latest", x.restore(), 59);
        due("image: the HOUR", x.count(3), 1);
        long before = x.digest();
        x.image();
        due("image changes nothing", x.digest(), before);
    }

    private static void restore() {
        TownOnWeight x = town("h-0930", "s-0921", "c-0910");
        refused("restore() of none", x, STATE, TownOnWeight::restore);
        x.hour();
        x.night();
        x.length(50);
        x.brake(0, true);
        x.rain(true);
        x.read(5, 5);
        hours(x, 2);
        x.image();
        long kept = x.digest();
        int hangs = x.count(2);
        x.night();
        x.length(77);
        x.brake(0, false);
        x.brake(1, true);
        x.rain(false);
        x.wipe();
        x.read(1, 9);
        x.read(2, 9);
        write(x, "u-0910");
        x.house();
        x.brake(3, true);
        x.read(8, 9);
        hours(x, 9);
        x.night();
        due("restore()", x.restore(), hangs);
        due("restore: all is as it was", x.digest(), kept);
        due("restore: those that came are gone", x.count(0), 3);
        refused("restore: the fourth is unknown", x, UNKNOWN, t -> t.about(3, 0));
        x.night();
        due("restore() again", x.restore(), hangs);
        due("restore: again as it was", x.digest(), kept);
        write(x, "h-");
        x.restore();
        due("restore leaves THE PAGE", x.count(9), 2);
        x.night();
        write(x, "c-0910");
        due("restore: a house under a number that was gone", x.house(), 3);
        due("restore: it has no BRAKE, TAKEN, OWES", x.about(3, 6) + x.about(3, 7) + x.about(3, 8), 0);
        TownOnWeight down = town("c-0990");
        down.length(5);
        down.hour();
        down.image();
        down.night();
        due("restore() to where it is DOWN", down.restore(), 0);
        due("restore: it is DOWN", down.count(6), 1);
        refused("restore: no hour comes", down, STATE, TownOnWeight::hour);
        TownOnWeight up = town("c-0990");
        up.image();
        hours(up, 9);
        due("restore: DOWN ahead of it", up.count(6), 1);
        due("restore() to where it is not DOWN", up.restore(), 60);
        due("restore: not DOWN", up.count(6), 0);
        due("restore: an hour comes", up.hour(), 9);
    }

    private static void count() {
        TownOnWeight x = town("h-0921", "c-0910");
        x.length(30);
        x.rain(true);
        x.read(1, 4);
        x.letters(text("ab"));
        hours(x, 2);
        int[] counts = {2, 30, 18, 2, 6, 6, 0, 1, 1, 2};
        for (int what = 0; what < counts.length; what++) {
            due("count(" + what + ")", x.count(what), counts[what]);
        }
        hours(x, 7);
        due("count(6) when it is DOWN", x.count(6), 1);
        due("count(3) when it is DOWN", x.count(3), 6);
        TownOnWeight over = town("h-0910");
        hours(over, 12);
        due("count(3) when the day is over", over.count(3), 9);
        refused("count(-1)", x, OUTSIDE, t -> t.count(-1));
        refused("count(10)", x, OUTSIDE, t -> t.count(10));
        refused("count(MIN_VALUE)", x, OUTSIDE, t -> t.count(Integer.MIN_VALUE));
    }

    private static long mixed(long... numbers) {
        long h = 601;
        for (long n : numbers) {
            h = 31 * h + n;
        }
        return h;
    }

    private static void digest() {
        due("digest() of nothing", new TownOnWeight().digest(),
            mixed(0, 0, 0, 0, 0, 0, NONE, 0, 60, 60, 0, 0, 0, 0, 0, 0, 0));
        TownOnWeight x = town("h-0921", "x04530");
        x.length(20);
        x.rain(true);
        x.read(2, 6);
        x.letters(text("h0!"));
        x.hour();
        x.brake(0, true);
        // HOUR 1, 16 HANG; 4 go for 2 in an hour; in HOUR 4 the second wants 6 and 2 for the way
        // a brake for nobody takes 2, 2, 2, 2; for the first 6 (of 8); for the second 2, 2, 2, 2
        // with BRAKES as they are 6 are TAKEN, and with 9 more just so
        due("digest()", x.digest(), mixed(
            0, NONE, 0, 9, 2, 1, 2, 0, 1, 0, 4, 2,
            4, 0, 4, 5, 3, 0, 0, 0, 0, 0, 0, 2,
            1, 0, 8, 0, 0, 3, 1,
            'h', '0', '!',
            2, 20, 16, 1, 2, 2, 0, 1, 1, 3));
        TownOnWeight y = town("h-1250", "h-0110", "h-0231");
        y.length(4);
        // as it is, only the second takes 1; with 9 more 1 and 3, then 5; without the second 3
        due("digest() of a morning", y.digest(), mixed(
            0, NONE, 1, 2, 5, 0, 0, 0, 0, 0, 0, 1,
            0, NONE, 0, 1, 1, 0, 0, 0, 0, 1, 0, 1,
            0, NONE, 0, 2, 3, 1, 0, 0, 0, 3, 0, 1,
            0, 5, 3, 2, 8, 7, 1,
            3, 4, 4, 0, 0, 0, 0, 0, 0, 0));
    }
}
