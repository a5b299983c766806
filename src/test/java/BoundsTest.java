/**
 * "In all calls illegal argument: a number is out of its bounds, there is no such zone."
 *
 * Every number of every call: its least and its greatest are taken and do what they say; one less,
 * one more and the least and greatest that an int holds are refused.
 */
public final class BoundsTest {
    private static final Check check = new Check();

    /** A call with the number that is looked at in its place, all others being well within bounds. */
    private interface Told {
        void call(StartTimes x, int v);
    }

    /** What is due after a call that took the number. */
    private interface Effect {
        void look(StartTimes x, int v);
    }

    public static void main(String[] args) {
        holdsAndLeads();
        whatIsSet();
        wants();
        outside();
        machine();
        minutesAsked();
        fades();
        daysAndParts();
        pricesAndHours();
        quarters();
        setsOfQuarters();
        zoneNumbers();
        zonesAsTheyCome();
        check.end();
    }

    /** Six zones that keep all heat but for a thousandth; zone 0 wants something. */
    private static StartTimes ready() {
        StartTimes x = new StartTimes();
        for (int i = 0; i < 6; i++) {
            x.zone(1, 1000);
        }
        x.want(0, 600, 0);
        return x;
    }

    private static void bounds(String sentence, int least, int most, Told told, Effect effect) {
        check.sentence(sentence);
        int[] within = {least, most};
        for (int v : within) {
            StartTimes x = ready();
            check.taken("the call with " + v, () -> told.call(x, v));
            effect.look(x, v);
        }
        int[] without = {least - 1, most + 1, Integer.MIN_VALUE, Integer.MAX_VALUE};
        for (int v : without) {
            StartTimes x = ready();
            check.refused("the call with " + v, () -> told.call(x, v));
        }
    }

    private static void holdsAndLeads() {
        // A new object, because six zones are all that there may be.
        int[][] within = {{1, 1}, {1, 1000}, {1000, 1}, {1000, 1000}};
        check.sentence("HOLDS (1 .. 1000), LEADS (1 .. 1000)");
        for (int[] w : within) {
            StartTimes x = new StartTimes();
            check.due("zone(" + w[0] + ", " + w[1] + ")", x.zone(w[0], w[1]), 0);
            x.set(0, 0, 10000);
            x.set(0, 1, 100000);
            check.due("cooling by its leads", x.at(0, 1), 10000 - 10000 / w[1]);
            x.want(0, 1, 10000);
            check.due("warming by its holds", x.at(0, 1), 10000 - 10000 / w[1] + 100000 / w[0]);
        }
        int[] without = {0, 1001, -1, Integer.MIN_VALUE, Integer.MAX_VALUE};
        for (int v : without) {
            StartTimes x = new StartTimes();
            check.refused("holds " + v, () -> x.zone(v, 1));
            check.refused("leads " + v, () -> x.zone(1, v));
            check.refused("both " + v, () -> x.zone(v, v));
        }
    }

    private static void whatIsSet() {
        bounds("set: what = 0, 1, 2", 0, 2, (x, v) -> x.set(0, v, 5), (x, v) ->
            check.due("what it was", x.set(0, v, 0), 5));
        bounds("WARMTHS -10000 .. 10000 when told: set", -10000, 10000, (x, v) -> x.set(0, 0, v), (x, v) -> {
            check.due("at 0", x.at(0, 0), v);
            check.due("what it was", x.set(0, 0, 0), v);
        });
        bounds("a POWER (0 .. 100000)", 0, 100000, (x, v) -> x.set(0, 1, v), (x, v) -> {
            x.want(0, 1, 10000);
            check.due("used", x.used(0), v);
            check.due("what it was", x.set(0, 1, 1), v);
        });
        bounds("a RANK (0 .. 9)", 0, 9, (x, v) -> x.set(0, 2, v), (x, v) ->
            check.due("what it was", x.set(0, 2, 1), v));
    }

    private static void wants() {
        // Everything is warm enough for the lowest warmth, so that the start is the wanted minute.
        bounds("MINUTES are 0 .. 1439: want, and NONE: nothing", -1, 1439, (x, v) -> x.want(0, v, -10000),
            (x, v) -> check.due("start", x.start(0), v));
        bounds("WARMTHS -10000 .. 10000 when told: want", -10000, 10000, (x, v) -> x.want(0, 0, v), (x, v) -> {
            x.set(0, 0, v);
            check.due("late when just so warm", x.late(0), false);
            x.set(0, 0, Math.max(-10000, v - 1));
            check.due("late when less warm", x.late(0), v > -10000);
        });
        bounds("WARMTHS -10000 .. 10000 when told: want of nothing", -10000, 10000, (x, v) -> x.want(0, -1, v),
            (x, v) -> check.due("start", x.start(0), StartTimes.NONE));
    }

    private static void outside() {
        bounds("MINUTES are 0 .. 1439: outside", 0, 1439, (x, v) -> x.outside(v, 5000), (x, v) -> {
            check.due("at its beginning", x.at(0, v), 0);
            check.due("a minute later", x.at(0, v + 1), 5);
        });
        bounds("WARMTHS -10000 .. 10000 when told: outside", -10000, 10000, (x, v) -> x.outside(0, v), (x, v) ->
            check.due("a minute later", x.at(0, 1), v / 1000));
    }

    private static void machine() {
        bounds("THE MACHINE gives so much in a minute (0 .. 1000000)", 0, 1000000, (x, v) -> x.machine(v),
            (x, v) -> {
                for (int i = 0; i < 6; i++) {
                    x.set(i, 1, 100000);
                    x.want(i, 1, 10000);
                }
                check.due("used", x.used(0), Math.min(v, 600000));
                check.due("what it gave", x.machine(1), v);
            });
    }

    private static void minutesAsked() {
        bounds("at: the beginning of a minute (0 .. 1440)", 0, 1440, (x, v) -> x.at(0, v), (x, v) ->
            check.due("at", x.at(0, v), 0));
        bounds("MINUTES are 0 .. 1439: used", 0, 1439, (x, v) -> x.used(v), (x, v) ->
            check.due("used", x.used(v), 0));
    }

    private static void lesson(StartTimes x, long above, long below) {
        check.due("lesson above", x.lesson(0, 0), above);
        check.due("lesson below", x.lesson(0, 1), below);
    }

    private static void fades() {
        bounds("fade: below 1 .. 100", 1, 100, (x, v) -> x.fade(1, v), (x, v) -> {
            x.day(0, 1);
            lesson(x, 1, v);
        });
        bounds("fade: below 1 .. 100, with nothing above", 1, 100, (x, v) -> x.fade(0, v), (x, v) -> {
            x.day(0, 1);
            lesson(x, 0, 1);
        });
        int[] belows = {1, 2, 50, 100};
        for (int below : belows) {
            bounds("fade: 0 <= above <= below", 0, below, (x, v) -> x.fade(v, below), (x, v) -> {
                x.day(0, 1440);
                lesson(x, v == 0 ? 0 : 1440, 1);
            });
        }
    }

    private static void daysAndParts() {
        bounds("day: -1440 .. 1440 minutes", -1440, 1440, (x, v) -> x.day(0, v), (x, v) -> lesson(x, v / 2, 1));
        bounds("lesson: above (part 0), below (1)", 0, 1, (x, v) -> x.lesson(0, v), (x, v) ->
            check.due("part", x.lesson(0, v), v));
    }

    private static void pricesAndHours() {
        bounds("each hour has one: 24 of them", 0, 23, (x, v) -> x.price(v, 9), (x, v) -> {
            x.want(0, v * 60 + 1, 0);
            check.due("the cost of its first minute", x.costs(0, 1, 1, 1), 9 * 1000);
            check.due("what it was", x.price(v, 0), 9);
        });
        bounds("PRICES: each hour has one (0 .. 1000)", 0, 1000, (x, v) -> x.price(3, v), (x, v) -> {
            x.want(0, 200, 0);
            check.due("the cost of a minute", x.costs(0, 1, 1, 1), v * 1000);
            check.due("what it was", x.price(3, 1), v);
        });
    }

    private static void quarters() {
        bounds("n 1 .. 10: cheapest", 1, 10, (x, v) -> x.cheapest(0, v, 30), (x, v) ->
            check.due("cheapest", x.cheapest(0, v, 30), 0));
        bounds("m 1 .. 30: cheapest", 1, 30, (x, v) -> x.cheapest(0, 10, v), (x, v) ->
            check.due("cheapest", x.cheapest(0, 10, v), 0));
        bounds("n 1 .. 10: costs", 1, 10, (x, v) -> x.costs(0, v, 3, 1), (x, v) -> {
            x.price(9, 1);
            check.due("all quarters", x.costs(0, v, 3, (1 << v) - 1), v * 3 * 1000);
        });
        bounds("m 1 .. 30: costs", 1, 30, (x, v) -> x.costs(0, 2, v, 1), (x, v) -> {
            x.price(9, 1);
            check.due("both quarters", x.costs(0, 2, v, 3), 2 * v * 1000);
        });
    }

    private static void setsOfQuarters() {
        for (int n = 1; n <= 10; n++) {
            int quarters = n;
            int all = (1 << n) - 1;
            bounds("costs: illegal argument also if it has a bit for no quarter, of " + n, 0, all,
                (x, v) -> x.costs(0, quarters, 1, v), (x, v) -> {
                    x.price(9, 1);
                    check.due("costs", x.costs(0, quarters, 1, v), Integer.bitCount(v) * 1000);
                });
            StartTimes x = ready();
            for (int bit = n; bit < 32; bit++) {
                int set = 1 << bit;
                check.refused("bit " + bit, () -> x.costs(0, quarters, 1, set));
                check.refused("bit " + bit + " and all quarters", () -> x.costs(0, quarters, 1, set | all));
            }
        }
    }

    private static void zoneNumbers() {
        zoneNumber("set", (x, v) -> x.set(v, 0, 7), (x, v) -> check.due("at 0", x.at(v, 0), 7));
        zoneNumber("want", (x, v) -> x.want(v, 9, 0), (x, v) -> check.due("start", x.start(v), 9));
        zoneNumber("start", (x, v) -> x.start(v), (x, v) -> { });
        zoneNumber("late", (x, v) -> x.late(v), (x, v) -> { });
        zoneNumber("at", (x, v) -> x.at(v, 0), (x, v) -> { });
        zoneNumber("cold", (x, v) -> x.cold(v), (x, v) -> { });
        zoneNumber("day", (x, v) -> x.day(v, 8), (x, v) -> check.due("lesson", x.lesson(v, 0), 4));
        zoneNumber("lesson", (x, v) -> x.lesson(v, 1), (x, v) -> { });
        zoneNumber("taught", (x, v) -> x.taught(v), (x, v) -> { });
        zoneNumber("cheapest", (x, v) -> {
            allWant(x);
            x.cheapest(v, 1, 1);
        }, (x, v) -> { });
        zoneNumber("costs", (x, v) -> {
            allWant(x);
            x.costs(v, 1, 1, 0);
        }, (x, v) -> { });
    }

    private static void zoneNumber(String call, Told told, Effect effect) {
        bounds("ZONES are 0 .. 5: " + call, 0, 5, told, effect);
    }

    private static void allWant(StartTimes x) {
        for (int i = 0; i < 6; i++) {
            x.want(i, 600, 0);
        }
    }

    private static void zonesAsTheyCome() {
        check.sentence("ZONES are 0 .. 5, as they come; there is no such zone");
        StartTimes x = new StartTimes();
        for (int count = 0; count <= 6; count++) {
            for (int zone = -1; zone <= 6; zone++) {
                int z = zone;
                boolean known = zone >= 0 && zone < count;
                check.dueText("start(" + zone + ") of " + count, Check.thrownBy(() -> x.start(z)),
                    known ? "nothing thrown" : "IllegalArgumentException");
            }
            if (count < 6) {
                check.due("its number", x.zone(1, 1), count);
            }
        }
    }
}
