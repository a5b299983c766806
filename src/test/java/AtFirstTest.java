/** What is so at first, sentence by sentence, until it is told otherwise. */
public final class AtFirstTest {
    private static final Check check = new Check();

    public static void main(String[] args) {
        noneIsMinusOne();
        noZones();
        pricesAreZero();
        warmthIsZero();
        powerIsThousand();
        rankIsZero();
        wantsNothing();
        outsideIsZero();
        machineGivesHundredThousand();
        fadeIsOneHalf();
        lessonIsZero();
        objectsAreApart();
        check.end();
    }

    private static void noneIsMinusOne() {
        check.sentence("NONE = -1");
        check.due("NONE", StartTimes.NONE, -1);
    }

    private static void noZones() {
        check.sentence("No zones");
        StartTimes x = new StartTimes();
        for (int zone = 0; zone < 6; zone++) {
            int z = zone;
            check.refused("start(" + z + ")", () -> x.start(z));
        }
        for (int minute = 0; minute < 1440; minute += 13) {
            check.due("used", x.used(minute), 0);
        }
        check.due("the first zone", x.zone(1, 1), 0);
    }

    private static void pricesAreZero() {
        check.sentence("prices 0");
        StartTimes x = new StartTimes();
        x.zone(1, 1);
        for (int hour = 0; hour < 24; hour++) {
            x.want(0, hour * 60 + 59, -1);
            check.due("costs in hour " + hour, x.costs(0, 1, 30, 1), 0);
            check.due("price(" + hour + ", 1)", x.price(hour, 1), 0);
        }
    }

    private static void warmthIsZero() {
        check.sentence("a WARMTH at minute 0 (0 at first)");
        StartTimes x = new StartTimes();
        for (int zone = 0; zone < 6; zone++) {
            x.zone(1 + zone, 1000);
            check.due("at 0", x.at(zone, 0), 0);
            check.due("what it was", x.set(zone, 0, 10), 0);
        }
    }

    private static void powerIsThousand() {
        check.sentence("a POWER (1000 at first)");
        StartTimes x = new StartTimes();
        for (int zone = 0; zone < 6; zone++) {
            x.zone(1, 1000);
            x.want(zone, zone + 1, 1000);
            check.due("used", x.used(zone), 1000);
            check.due("what it was", x.set(zone, 1, 0), 1000);
        }
    }

    private static void rankIsZero() {
        check.sentence("a RANK (0 at first)");
        StartTimes x = new StartTimes();
        for (int zone = 0; zone < 3; zone++) {
            x.zone(1, 1000);
            x.set(zone, 1, 10);
            x.want(zone, 100, 10);
        }
        x.machine(10);
        x.set(0, 2, 1);
        x.set(2, 2, 1);
        check.due("the one of rank 0 goes first", x.start(1), 99);
        check.due("then those of rank 1", x.start(0), 98);
        check.due("then those of rank 1", x.start(2), 97);
        check.due("what it was", x.set(1, 2, 9), 0);
    }

    private static void wantsNothing() {
        check.sentence("and may WANT a warmth at a minute");
        StartTimes x = new StartTimes();
        x.zone(1, 1000);
        x.set(0, 0, -10000);
        check.due("start", x.start(0), StartTimes.NONE);
        check.due("late", x.late(0), false);
        check.due("cold", x.cold(0), 0);
        check.due("taught", x.taught(0), StartTimes.NONE);
        check.outOfState("cheapest", () -> x.cheapest(0, 1, 1));
        check.outOfState("costs", () -> x.costs(0, 1, 1, 0));
        for (int minute = 0; minute < 1440; minute += 4) {
            check.due("used(" + minute + ")", x.used(minute), 0);
        }
    }

    private static void outsideIsZero() {
        check.sentence("THE OUTSIDE has a warmth from the minutes on that are told, 0 before");
        StartTimes x = new StartTimes();
        x.zone(1, 1);
        x.set(0, 0, 5);
        check.due("after a minute", x.at(0, 1), 0);
        check.due("after a day", x.at(0, 1440), 0);
        check.due("the first row", x.outside(0, 1), 1);
    }

    private static void machineGivesHundredThousand() {
        check.sentence("THE MACHINE gives so much in a minute (100000 at first)");
        StartTimes x = new StartTimes();
        for (int zone = 0; zone < 2; zone++) {
            x.zone(1, 1000);
            x.want(zone, 1, 10000);
        }
        x.set(0, 1, 99999);
        check.due("both", x.used(0), 100000);
        check.due("one is left for the second", x.at(1, 1), 1);
        check.due("what it gave", x.machine(7), 100000);
    }

    private static void fadeIsOneHalf() {
        check.sentence("1 / 2 at first");
        StartTimes x = new StartTimes();
        x.zone(1, 1);
        x.day(0, 3);
        check.due("above", x.lesson(0, 0), 3);
        check.due("below", x.lesson(0, 1), 2);
    }

    private static void lessonIsZero() {
        check.sentence("exactly (0 at first)");
        StartTimes x = new StartTimes();
        for (int zone = 0; zone < 6; zone++) {
            x.zone(1, 1000);
            x.want(zone, 700, 100);
            check.due("above", x.lesson(zone, 0), 0);
            check.due("below", x.lesson(zone, 1), 1);
            check.due("taught", x.taught(zone), x.start(zone));
            x.day(zone, 9);
        }
    }

    private static void objectsAreApart() {
        check.sentence("A new object: whatever others have been told");
        StartTimes other = new StartTimes();
        other.zone(3, 3);
        other.set(0, 1, 5);
        other.machine(1);
        other.outside(5, 500);
        other.price(0, 5);
        other.fade(1, 1);
        other.day(0, 5);
        StartTimes x = new StartTimes();
        check.refused("start(0)", () -> x.start(0));
        check.due("zone", x.zone(1, 1), 0);
        check.due("power", x.set(0, 1, 1), 1000);
        check.due("machine", x.machine(2), 100000);
        check.due("outside", x.outside(5, 0), 1);
        check.due("price", x.price(0, 0), 0);
        x.day(0, 1);
        check.due("lesson", x.lesson(0, 1), 2);
        check.due("the other's machine", other.machine(0), 1);
    }
}
