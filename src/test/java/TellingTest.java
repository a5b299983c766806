/** Promises 1 to 6: a new object, zone, set, want, outside, machine. */
public final class TellingTest {
    private static final Check check = new Check();

    public static void main(String[] args) {
        newObject();
        zone();
        zonesInBounds();
        set();
        setInBounds();
        want();
        wantInBounds();
        outside();
        outsideRows();
        outsideInBounds();
        machine();
        machineInBounds();
        check.end();
    }

    private static void newObject() {
        StartTimes x = new StartTimes();
        check.due("NONE", StartTimes.NONE, -1);
        for (int zone = -1; zone <= 6; zone++) {
            int z = zone;
            check.refused("start of no zone", () -> x.start(z));
            check.refused("late of no zone", () -> x.late(z));
            check.refused("at of no zone", () -> x.at(z, 0));
            check.refused("cold of no zone", () -> x.cold(z));
            check.refused("taught of no zone", () -> x.taught(z));
            check.refused("lesson of no zone", () -> x.lesson(z, 0));
            check.refused("day of no zone", () -> x.day(z, 0));
            check.refused("set of no zone", () -> x.set(z, 0, 0));
            check.refused("want of no zone", () -> x.want(z, 0, 0));
            check.refused("cheapest of no zone", () -> x.cheapest(z, 1, 1));
            check.refused("costs of no zone", () -> x.costs(z, 1, 1, 0));
        }
        for (int minute = 0; minute < 1440; minute += 1439) {
            check.due("used of a new object", x.used(minute), 0);
        }
        for (int hour = 0; hour < 24; hour++) {
            check.due("price of a new object", x.price(hour, 0), 0);
        }
        check.due("the machine of a new object", x.machine(5), 100000);
        check.due("the first row outside", x.outside(0, 0), 1);
    }

    private static void zone() {
        StartTimes x = new StartTimes();
        for (int i = 0; i < 6; i++) {
            check.due("zone", x.zone(1 + i, 1000 - i), i);
            check.due("start of a new zone", x.start(i), StartTimes.NONE);
            check.due("late of a new zone", x.late(i), false);
            check.due("warmth of a new zone", x.at(i, 0), 0);
            check.due("warmth of a new zone at the end", x.at(i, 1440), 0);
            check.due("cold of a new zone", x.cold(i), 0);
            check.due("taught of a new zone", x.taught(i), StartTimes.NONE);
        }
        check.outOfState("a seventh zone", () -> x.zone(1, 1));
        check.refused("a seventh zone out of bounds", () -> x.zone(0, 1));
        check.refused("a seventh zone out of bounds", () -> x.zone(1, 1001));
        check.refused("start of a seventh zone", () -> x.start(6));
        check.due("warmth at first", x.set(5, 0, 1), 0);
        check.due("power at first", x.set(5, 1, 1), 1000);
        check.due("rank at first", x.set(5, 2, 1), 0);
    }

    private static void zonesInBounds() {
        StartTimes x = new StartTimes();
        int[][] wrong = {{0, 1}, {1, 0}, {-1, 1}, {1, -1}, {1001, 1}, {1, 1001},
            {Integer.MIN_VALUE, 1}, {1, Integer.MAX_VALUE}};
        for (int[] w : wrong) {
            check.refused("zone(" + w[0] + ", " + w[1] + ")", () -> x.zone(w[0], w[1]));
        }
        check.due("zone(1, 1) after refused ones", x.zone(1, 1), 0);
        check.due("zone(1000, 1000)", x.zone(1000, 1000), 1);
        check.refused("start of a zone that is not made yet", () -> x.start(2));
    }

    private static void set() {
        StartTimes x = new StartTimes();
        x.zone(1, 1);
        x.zone(1, 1);
        check.due("set warmth", x.set(0, 0, -10000), 0);
        check.due("at 0", x.at(0, 0), -10000);
        check.due("set warmth", x.set(0, 0, 10000), -10000);
        check.due("at 0", x.at(0, 0), 10000);
        check.due("warmth of the other zone", x.at(1, 0), 0);
        check.due("set power", x.set(0, 1, 100000), 1000);
        check.due("set power", x.set(0, 1, 0), 100000);
        check.due("set power", x.set(0, 1, 7), 0);
        check.due("set rank", x.set(0, 2, 9), 0);
        check.due("set rank", x.set(0, 2, 0), 9);
        check.due("warmth is kept", x.set(0, 0, 0), 10000);
        check.due("power of the other zone", x.set(1, 1, 0), 1000);
    }

    private static void setInBounds() {
        StartTimes x = new StartTimes();
        x.zone(1, 1);
        int[][] wrong = {{0, -1, 0}, {0, 3, 0}, {0, 0, -10001}, {0, 0, 10001}, {0, 1, -1}, {0, 1, 100001},
            {0, 2, -1}, {0, 2, 10}, {1, 0, 0}, {-1, 0, 0}, {6, 0, 0}, {0, Integer.MIN_VALUE, 0},
            {0, 2, Integer.MAX_VALUE}, {Integer.MAX_VALUE, 0, 0}};
        for (int[] w : wrong) {
            check.refused("set(" + w[0] + ", " + w[1] + ", " + w[2] + ")", () -> x.set(w[0], w[1], w[2]));
        }
        check.due("warmth after refused calls", x.set(0, 0, 0), 0);
        check.due("power after refused calls", x.set(0, 1, 0), 1000);
        check.due("rank after refused calls", x.set(0, 2, 0), 0);
    }

    private static void want() {
        StartTimes x = new StartTimes();
        x.zone(10, 100);
        x.want(0, 1439, 100);
        check.due("start for the last minute", x.start(0), 1438);
        x.want(0, 20, -10000);
        check.due("start for less than it has", x.start(0), 20);
        x.want(0, 0, 10000);
        check.due("start for minute 0", x.start(0), 0);
        check.due("late for minute 0", x.late(0), true);
        x.want(0, StartTimes.NONE, 10000);
        check.due("start for nothing", x.start(0), StartTimes.NONE);
        check.due("late for nothing", x.late(0), false);
        check.due("cold for nothing", x.cold(0), 0);
        check.due("taught for nothing", x.taught(0), StartTimes.NONE);
        check.outOfState("cheapest for nothing", () -> x.cheapest(0, 1, 1));
    }

    private static void wantInBounds() {
        StartTimes x = new StartTimes();
        x.zone(10, 100);
        x.want(0, 400, 2000);
        int[][] wrong = {{1, 0, 0}, {-1, 0, 0}, {0, -2, 0}, {0, 1440, 0}, {0, 0, 10001}, {0, 0, -10001},
            {0, -1, 10001}, {0, -1, -10001}, {0, Integer.MAX_VALUE, 0}, {0, 0, Integer.MIN_VALUE}};
        for (int[] w : wrong) {
            check.refused("want(" + w[0] + ", " + w[1] + ", " + w[2] + ")", () -> x.want(w[0], w[1], w[2]));
        }
        check.due("start after refused calls", x.start(0), 377);
    }

    private static void outside() {
        StartTimes x = new StartTimes();
        x.zone(1, 1);
        check.due("warmth outside before any row", x.at(0, 1440), 0);
        check.due("outside", x.outside(10, 300), 1);
        check.due("outside", x.outside(11, -400), 2);
        check.due("outside", x.outside(1439, 7), 3);
        check.due("0 before the first row", x.at(0, 10), 0);
        check.due("the first row", x.at(0, 11), 300);
        check.due("the second row", x.at(0, 12), -400);
        check.due("the second row to its end", x.at(0, 1439), -400);
        check.due("the last minute", x.at(0, 1440), 7);
    }

    private static void outsideRows() {
        StartTimes x = new StartTimes();
        x.zone(1, 1);
        for (int i = 0; i < 24; i++) {
            check.due("outside", x.outside(i * 2, i), i + 1);
            int at = i * 2;
            check.outOfState("outside at the same minute", () -> x.outside(at, 5000));
            check.outOfState("outside before a row", () -> x.outside(0, 5000));
        }
        check.outOfState("a 25th row", () -> x.outside(1439, 5000));
        check.outOfState("a 25th row before another", () -> x.outside(0, 5000));
        check.refused("a 25th row out of bounds", () -> x.outside(1440, 0));
        check.due("the outside after refused calls", x.at(0, 1440), 23);
        check.due("the outside after refused calls", x.at(0, 1), 0);
    }

    private static void outsideInBounds() {
        StartTimes x = new StartTimes();
        x.zone(1, 1);
        int[][] wrong = {{-1, 0}, {1440, 0}, {0, 10001}, {0, -10001}, {Integer.MIN_VALUE, 0},
            {0, Integer.MAX_VALUE}};
        for (int[] w : wrong) {
            check.refused("outside(" + w[0] + ", " + w[1] + ")", () -> x.outside(w[0], w[1]));
        }
        check.due("the first row after refused ones", x.outside(0, 10000), 1);
        check.refused("out of bounds before out of state", () -> x.outside(0, 10001));
        check.due("the lowest warmth", x.outside(1439, -10000), 2);
        check.due("at the day's end", x.at(0, 1440), -10000);
    }

    private static void machine() {
        StartTimes x = new StartTimes();
        x.zone(1, 1);
        x.set(0, 1, 100000);
        x.want(0, 1, 10000);
        check.due("used with the machine at first", x.used(0), 100000);
        check.due("machine", x.machine(0), 100000);
        check.due("used of nothing", x.used(0), 0);
        check.due("late with nothing", x.late(0), true);
        check.due("machine", x.machine(1000000), 0);
        check.due("used", x.used(0), 100000);
        check.due("machine", x.machine(12345), 1000000);
        check.due("used", x.used(0), 12345);
    }

    private static void machineInBounds() {
        StartTimes x = new StartTimes();
        check.refused("machine(-1)", () -> x.machine(-1));
        check.refused("machine(1000001)", () -> x.machine(1000001));
        check.refused("machine(least)", () -> x.machine(Integer.MIN_VALUE));
        check.due("machine after refused calls", x.machine(1), 100000);
    }
}
