import java.util.ArrayList;
import java.util.LinkedHashMap;
import java.util.List;
import java.util.Map;
import java.util.function.Supplier;
import java.util.function.ToLongFunction;

/**
 * Each refusal in many states: it is answered as told, of several the first as told, and it changes nothing.
 * That nothing changed is seen on twins: one town is made twice, one of them is asked what is refused,
 * and both must then answer alike whatever they go through, the image too.
 */
public final class RefusalTest extends Check {
    public static void main(String[] args) throws Exception {
        runPromises(RefusalTest.class, 2, 28);
        finish("checks of refusals");
    }

    /** Not every promise has a refusal: those that have none say so by a call that is never refused. */
    private static void neverRefused(String call, ToLongFunction<TownOnWeight> made) {
        for (Map.Entry<String, Supplier<TownOnWeight>> state : states().entrySet()) {
            long answer = made.applyAsLong(state.getValue().get());
            due(call + " of " + state.getKey() + " is no refusal", answer < NONE && answer >= FULL ? 1 : 0, 0);
        }
    }

    // ---- states

    private static TownOnWeight morning() {
        TownOnWeight x = townOf(90, "h-0930", "c00911", "s10920");
        x.read(1, 5);
        x.image();
        x.brake(0, true);
        x.rain(true);
        x.read(6, 9);
        x.letters(text("h2"));
        return x;
    }

    private static TownOnWeight later(int hours) {
        TownOnWeight x = morning();
        hours(x, hours);
        return x;
    }

    private static TownOnWeight down() {
        TownOnWeight x = townOf(12, "h-0930", "c-0990");
        x.image();
        x.letters(text("h-0910"));
        hours(x, 2);
        return x;
    }

    /** Eight HOUSES, eight READINGS, a page that is a HOUSE. */
    private static TownOnWeight full() {
        TownOnWeight x = town("h-0911", "c00920", "u10930", "s20940", "x30950", "h40910", "c50911", "s-0910");
        for (int i = 0; i < 8; i++) {
            x.read(1 << i, 10 + i);
        }
        x.image();
        x.letters(text("h70910"));
        return x;
    }

    private static TownOnWeight fullPage() {
        TownOnWeight x = full();
        x.letters(text("zzzzzz"));
        return x;
    }

    private static TownOnWeight fullLater() {
        TownOnWeight x = full();
        hours(x, 1);
        return x;
    }

    private static TownOnWeight secondMorning() {
        TownOnWeight x = later(5);
        x.night();
        return x;
    }

    private static TownOnWeight withoutImage() {
        TownOnWeight x = town("h-0930", "c00911");
        x.letters(text("h-0910"));
        x.hour();
        return x;
    }

    private static Map<String, Supplier<TownOnWeight>> states() {
        Map<String, Supplier<TownOnWeight>> all = new LinkedHashMap<>();
        all.put("a new town", TownOnWeight::new);
        all.put("a morning", RefusalTest::morning);
        all.put("HOUR 1", () -> later(1));
        all.put("HOUR 8", () -> later(8));
        all.put("the end of a DAY", () -> later(9));
        all.put("a second morning", RefusalTest::secondMorning);
        all.put("a town that is DOWN", RefusalTest::down);
        all.put("a full town", RefusalTest::full);
        all.put("a full town with a full page", RefusalTest::fullPage);
        all.put("a full town in HOUR 1", RefusalTest::fullLater);
        all.put("a town without an image", RefusalTest::withoutImage);
        return all;
    }

    // ---- twins

    /** All that can be seen of a town now, and of what would be. */
    private static void see(TownOnWeight x, List<Long> seen) {
        seen.add(x.digest());
        seen.add((long) x.fault());
        for (int what = 0; what <= 3; what++) {
            seen.add((long) x.rest(77, what));
        }
        for (int feet = 1; feet <= 9; feet++) {
            seen.add((long) x.missing(feet, 2));
        }
        seen.add((long) x.more(99));
    }

    /** A town is led on through all that it keeps: the page, the hours, a night, the image, readings. */
    private static List<Long> leadOn(TownOnWeight x) {
        List<Long> seen = new ArrayList<>();
        see(x, seen);
        seen.add((long) x.letters('9'));
        see(x, seen);
        for (int hour = 0; hour < 2; hour++) {
            seen.add((long) x.hour());
            see(x, seen);
        }
        seen.add((long) x.night());
        see(x, seen);
        seen.add((long) x.restore());
        see(x, seen);
        seen.add((long) x.hour());
        seen.add((long) x.night());
        seen.add((long) x.blank());
        x.letters(text("h-0910"));
        seen.add((long) x.house());
        seen.add((long) x.wipe());
        seen.add((long) x.read(1, 5));
        seen.add((long) x.length(33));
        see(x, seen);
        return seen;
    }

    private static void refusedIn(String state, Supplier<TownOnWeight> made, String call, int code,
            ToLongFunction<TownOnWeight> asked) {
        TownOnWeight x = made.get();
        due(call + " of " + state, asked.applyAsLong(x), code);
        due(call + " of " + state + " again", asked.applyAsLong(x), code);
        List<Long> seen = leadOn(x);
        List<Long> unasked = leadOn(made.get());
        due(call + " of " + state + " changes nothing", seen.equals(unasked) ? 1 : 0, 1);
    }

    private static void refusedInAll(String call, int code, ToLongFunction<TownOnWeight> asked) {
        for (Map.Entry<String, Supplier<TownOnWeight>> state : states().entrySet()) {
            refusedIn(state.getKey(), state.getValue(), call, code, asked);
        }
    }

    /** In each state in which there are HOUSES. */
    private static void refusedOfHouses(String call, int code, ToLongFunction<TownOnWeight> asked) {
        for (Map.Entry<String, Supplier<TownOnWeight>> state : states().entrySet()) {
            if (state.getValue().get().count(0) > 0) {
                refusedIn(state.getKey(), state.getValue(), call, code, asked);
            }
        }
    }

    private interface OfHouse {
        int asked(TownOnWeight x, int house);
    }

    private static void unknownHouses(String call, OfHouse made) {
        refusedInAll(call + " of the HOUSE behind the last", UNKNOWN, x -> made.asked(x, x.count(0)));
        for (int house : WRONG_HOUSES) {
            refusedInAll(call + " of " + house, UNKNOWN, x -> made.asked(x, house));
        }
    }

    // ---- what is refused

    static void p02_letters() {
        for (long w : new long[] {127, 128, 255, -1, 'a' << 8, 1L << 56, Long.MIN_VALUE, Long.MAX_VALUE, 0x617f6161L}) {
            refusedInAll("letters(" + w + ")", OUTSIDE, x -> x.letters(w));
        }
        refusedIn("a full page", RefusalTest::fullPage, "letters('a')", FULL, x -> x.letters('a'));
        refusedIn("a full page", RefusalTest::fullPage, "letters of eight", FULL, x -> x.letters(text("abcdefgh")));
        refusedIn("a page of 6", RefusalTest::full, "letters of seven", FULL, x -> x.letters(text("abcdefg")));
    }

    static void p03_blank() {
        neverRefused("blank()", TownOnWeight::blank);
    }

    static void p04_fault() {
        neverRefused("fault()", TownOnWeight::fault);
    }

    static void p05_house() {
        refusedIn("a new town", TownOnWeight::new, "house()", STATE, TownOnWeight::house);
        refusedIn("two letters", RefusalTest::morning, "house()", STATE, TownOnWeight::house);
        refusedIn("HOUR 1", RefusalTest::withoutImage, "house()", STATE, TownOnWeight::house);
        refusedIn("a town that is DOWN", RefusalTest::down, "house()", STATE, TownOnWeight::house);
        refusedIn("a full town", RefusalTest::full, "house()", FULL, TownOnWeight::house);
        refusedIn("a full town with a full page", RefusalTest::fullPage, "house()", STATE, TownOnWeight::house);
        refusedIn("a full town in HOUR 1", RefusalTest::fullLater, "house()", STATE, TownOnWeight::house);
    }

    static void p06_about() {
        for (int what : new int[] {0, 8, -1, 9}) {
            unknownHouses("about(.., " + what + ")", (x, house) -> x.about(house, what));
        }
        for (int what : new int[] {-1, 9, Integer.MIN_VALUE, Integer.MAX_VALUE}) {
            refusedOfHouses("about(0, " + what + ")", OUTSIDE, x -> x.about(0, what));
        }
    }

    static void p07_as() {
        for (int kind : new int[] {0, 4, -1, 5}) {
            unknownHouses("as(.., " + kind + ")", (x, house) -> x.as(house, kind));
        }
        for (int kind : new int[] {-1, 5, Integer.MIN_VALUE, Integer.MAX_VALUE}) {
            refusedOfHouses("as(0, " + kind + ")", OUTSIDE, x -> x.as(0, kind));
        }
    }

    static void p08_length() {
        for (int v : new int[] {0, 100, -1, Integer.MIN_VALUE, Integer.MAX_VALUE}) {
            refusedInAll("length(" + v + ")", OUTSIDE, x -> x.length(v));
        }
        for (int v : new int[] {1, 50, 99}) {
            for (int hour = 1; hour <= 9; hour++) {
                int now = hour;
                refusedIn("HOUR " + hour, () -> later(now), "length(" + v + ")", STATE, x -> x.length(v));
            }
            refusedIn("a town that is DOWN", RefusalTest::down, "length(" + v + ")", STATE, x -> x.length(v));
        }
    }

    static void p09_brake() {
        unknownHouses("brake(.., true)", (x, house) -> x.brake(house, true));
        unknownHouses("brake(.., false)", (x, house) -> x.brake(house, false));
    }

    static void p10_rain() {
        neverRefused("rain(true)", x -> x.rain(true));
        neverRefused("rain(false)", x -> x.rain(false));
    }

    static void p11_wants() {
        unknownHouses("wants()", TownOnWeight::wants);
    }

    static void p12_goes() {
        refusedInAll("goes() by the HOUSE behind the last", OUTSIDE, x -> x.goes(1 << x.count(0)));
        for (int set : new int[] {-1, 256, 511, Integer.MIN_VALUE, Integer.MIN_VALUE + 1, Integer.MAX_VALUE}) {
            refusedInAll("goes(" + set + ")", OUTSIDE, x -> x.goes(set));
        }
    }

    static void p13_hour() {
        refusedIn("the end of a DAY", () -> later(9), "hour()", STATE, TownOnWeight::hour);
        refusedIn("a town that is DOWN", RefusalTest::down, "hour()", STATE, TownOnWeight::hour);
        for (int hour = 0; hour <= 8; hour++) {
            due("hour() " + hour + " is no refusal", later(hour).hour() >= 0 ? 1 : 0, 1);
        }
    }

    static void p14_worked() {
        neverRefused("worked()", TownOnWeight::worked);
    }

    static void p15_part() {
        unknownHouses("part()", TownOnWeight::part);
    }

    static void p16_night() {
        neverRefused("night()", TownOnWeight::night);
    }

    static void p17_plan() {
        for (int what : new int[] {-1, 2, Integer.MIN_VALUE, Integer.MAX_VALUE}) {
            refusedInAll("plan(" + what + ")", OUTSIDE, x -> x.plan(what));
        }
    }

    static void p18_more() {
        for (int feet : new int[] {-1, 100, Integer.MIN_VALUE, Integer.MAX_VALUE}) {
            refusedInAll("more(" + feet + ")", OUTSIDE, x -> x.more(feet));
        }
    }

    static void p19_missing() {
        int[][] asked = {{0, 0}, {73, 0}, {-1, 1}, {Integer.MIN_VALUE, 2}, {Integer.MAX_VALUE, 2}, {1, -1}, {1, 3},
            {72, 3}, {72, Integer.MAX_VALUE}, {0, 3}};
        for (int[] a : asked) {
            refusedInAll("missing(" + a[0] + ", " + a[1] + ")", OUTSIDE, x -> x.missing(a[0], a[1]));
        }
    }

    static void p20_rest() {
        int[][] asked = {{-1, 0}, {-1, 3}, {Integer.MIN_VALUE, 1}, {0, -1}, {0, 4}, {Integer.MAX_VALUE, 4}, {-1, 4},
            {5, Integer.MIN_VALUE}};
        for (int[] a : asked) {
            refusedInAll("rest(" + a[0] + ", " + a[1] + ")", OUTSIDE, x -> x.rest(a[0], a[1]));
        }
    }

    static void p21_read() {
        int[][] asked = {{0, 5}, {-1, 5}, {256, 5}, {Integer.MIN_VALUE, 5}, {Integer.MAX_VALUE, 5}, {0, 0}, {1, 0},
            {1, 200}, {1, -1}, {1, Integer.MIN_VALUE}, {1, Integer.MAX_VALUE}};
        for (int[] a : asked) {
            refusedInAll("read(" + a[0] + ", " + a[1] + ")", OUTSIDE, x -> x.read(a[0], a[1]));
        }
        refusedInAll("read() of the HOUSE behind the last", OUTSIDE, x -> x.read(1 << x.count(0), 5));
        for (int feet : new int[] {1, 199}) {
            refusedIn("a full town", RefusalTest::full, "read(1, " + feet + ")", FULL, x -> x.read(1, feet));
            refusedIn("a full town in HOUR 1", RefusalTest::fullLater, "read(255, " + feet + ")", FULL,
                x -> x.read(255, feet));
        }
    }

    static void p22_wipe() {
        neverRefused("wipe()", TownOnWeight::wipe);
    }

    static void p23_leaks() {
        neverRefused("leaks()", TownOnWeight::leaks);
    }

    static void p24_leak() {
        unknownHouses("leak()", TownOnWeight::leak);
    }

    static void p25_look() {
        neverRefused("look()", TownOnWeight::look);
    }

    static void p26_image() {
        neverRefused("image()", TownOnWeight::image);
    }

    static void p27_restore() {
        refusedIn("a new town", TownOnWeight::new, "restore()", STATE, TownOnWeight::restore);
        refusedIn("a town without an image", RefusalTest::withoutImage, "restore()", STATE, TownOnWeight::restore);
    }

    static void p28_count() {
        for (int what : new int[] {-1, 10, Integer.MIN_VALUE, Integer.MAX_VALUE}) {
            refusedInAll("count(" + what + ")", OUTSIDE, x -> x.count(what));
        }
    }
}
