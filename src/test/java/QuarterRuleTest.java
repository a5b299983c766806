/** PRICES and QUARTERS with the minutes before 0: one method for each sentence. */
public final class QuarterRuleTest {
    private static final Check check = new Check();

    public static void main(String[] args) {
        hourPrices();
        noHourWrapsAround();
        beforeTheWantedMinute();
        earliestFirst();
        heatsWithItsPower();
        whateverTheMachineGives();
        notInOtherMinutes();
        fromMinuteZeroOn();
        asWarmAsItWants();
        sumOverItsMinutes();
        moreThanAnInt();
        minutesBeforeZeroAreNone();
        minutesBeforeZeroCostNothing();
        wantedAtMinuteZero();
        doesAndCostsLeast();
        leastAsANumber();
        emptySet();
        noneIfNoneDoes();
        noneIfItDoesNotDo();
        costsNothingIsNotNone();
        noPower();
        wantsNothing();
        leavesThePlanAlone();
        check.end();
    }

    /** A zone that hardly cools and gets 10 warmer in each minute that it heats. */
    private static StartTimes steady(int minute, int warmth) {
        StartTimes x = new StartTimes();
        x.zone(1, 1000);
        x.set(0, 1, 10);
        x.want(0, minute, warmth);
        return x;
    }

    private static void hourPrices() {
        check.sentence("power times the hour's price");
        StartTimes x = steady(0, 0);
        for (int hour = 0; hour < 24; hour++) {
            x.price(hour, 100 + hour);
        }
        for (int hour = 0; hour < 24; hour++) {
            x.want(0, hour * 60 + 1, 0);
            check.due("its first minute", x.costs(0, 1, 1, 1), 10 * (100 + hour));
            x.want(0, hour * 60 + 59, 0);
            check.due("its last but one", x.costs(0, 1, 1, 1), 10 * (100 + hour));
            if (hour < 23) {
                x.want(0, hour * 60 + 60, 0);
                check.due("its last", x.costs(0, 1, 1, 1), 10 * (100 + hour));
            }
        }
        x.want(0, 1439, 0);
        check.due("1438, the last that can be", x.costs(0, 1, 1, 1), 10 * 123);
    }

    private static void noHourWrapsAround() {
        check.sentence("Minutes before 0 are none: not those of the hour 23");
        StartTimes x = steady(1, 0);
        x.price(23, 1000);
        check.due("costs", x.costs(0, 10, 30, 1023), 0);
        x.price(0, 3);
        check.due("the one minute", x.costs(0, 10, 30, 1023), 30);
    }

    private static void beforeTheWantedMinute() {
        check.sentence("are those before its wanted minute");
        StartTimes x = steady(120, 0);
        x.price(2, 1000);
        check.due("the wanted minute is none of them", x.costs(0, 1, 30, 1), 0);
        x.price(1, 1);
        check.due("the thirty before it are", x.costs(0, 1, 30, 1), 300);
        x.want(0, 121, 0);
        check.due("a minute later", x.costs(0, 1, 30, 1), 10 * (29 + 1000));
    }

    private static void earliestFirst() {
        check.sentence("the earliest first; bit k for the k-th");
        StartTimes x = steady(600, 0);
        for (int hour = 5; hour < 10; hour++) {
            x.price(hour, hour);
        }
        // Ten quarters of half an hour from 300 to 599: two in each of the hours 5 to 9.
        for (int k = 0; k < 10; k++) {
            check.due("quarter " + k, x.costs(0, 10, 30, 1 << k), 300 * (5 + k / 2));
        }
        StartTimes y = new StartTimes();
        y.zone(1, 1);
        y.want(0, 600, 1000);
        check.due("warm only from the last minute", y.cheapest(0, 10, 30), 512);
        check.due("the first nine do not do", y.costs(0, 10, 30, 511), StartTimes.NONE);
    }

    private static void heatsWithItsPower() {
        check.sentence("heats with its power in these");
        StartTimes x = steady(100, 40);
        check.due("three minutes do not do", x.costs(0, 1, 3, 1), StartTimes.NONE);
        check.due("four do", x.costs(0, 1, 4, 1), 0);
        x.set(0, 1, 14);
        check.due("three with more power do", x.costs(0, 1, 3, 1), 0);
        x.set(0, 1, 13);
        check.due("three with a little less do not", x.costs(0, 1, 3, 1), StartTimes.NONE);
    }

    private static void whateverTheMachineGives() {
        check.sentence("(whatever the machine gives)");
        StartTimes x = steady(100, 40);
        x.price(1, 2);
        int[] powers = {0, 9, 10, 1000000};
        for (int power : powers) {
            x.machine(power);
            check.due("cheapest", x.cheapest(0, 1, 4), 1);
            check.due("costs", x.costs(0, 1, 4, 1), 80);
        }
        // Others that go before it take nothing of its power.
        x.zone(1, 1000);
        x.set(1, 1, 50);
        x.want(1, 100, 10000);
        x.set(0, 2, 9);
        x.machine(50);
        check.due("late by the plan", x.late(0), true);
        check.due("cheapest", x.cheapest(0, 1, 4), 1);
        check.due("costs", x.costs(0, 1, 4, 1), 80);
    }

    private static void notInOtherMinutes() {
        check.sentence("not in other minutes");
        StartTimes x = steady(100, 10);
        check.due("start by the plan", x.start(0), 99);
        check.due("no quarter, no heat", x.costs(0, 10, 10, 0), StartTimes.NONE);
        x.want(0, 100, 301);
        check.due("three quarters of ten minutes", x.costs(0, 10, 10, 1 + 32 + 512), StartTimes.NONE);
        x.want(0, 100, 300);
        check.due("three quarters of ten minutes", x.costs(0, 10, 10, 1 + 32 + 512), 0);
    }

    private static void fromMinuteZeroOn() {
        check.sentence("from minute 0 on: with its warmth then, and the outside's since");
        StartTimes x = new StartTimes();
        x.zone(1, 10);
        x.set(0, 0, 1000);
        x.set(0, 1, 0);
        // 1000, 900, 810, 729
        x.want(0, 3, 729);
        check.due("cooling since minute 0", x.costs(0, 1, 1, 0), 0);
        check.due("cooling since minute 0", x.cheapest(0, 1, 1), 0);
        x.want(0, 3, 730);
        check.due("cooling since minute 0", x.costs(0, 1, 1, 0), StartTimes.NONE);
        check.due("cooling since minute 0", x.cheapest(0, 1, 1), StartTimes.NONE);
        x.outside(0, 10);
        check.due("the outside since minute 0", x.costs(0, 1, 1, 0), 0);
        check.due("the outside since minute 0", x.cheapest(0, 1, 1), 0);
        x.outside(2, -9000);
        check.due("the outside of the last minute", x.costs(0, 1, 1, 0), StartTimes.NONE);
        check.due("cheapest", x.cheapest(0, 1, 1), StartTimes.NONE);
    }

    private static void asWarmAsItWants() {
        check.sentence("it DOES if the zone is as warm as it wants in time");
        StartTimes x = steady(100, 50);
        check.due("just as warm", x.costs(0, 1, 5, 1), 0);
        check.due("just as warm", x.cheapest(0, 1, 5), 1);
        x.want(0, 100, 51);
        check.due("less warm", x.costs(0, 1, 5, 1), StartTimes.NONE);
        check.due("less warm", x.cheapest(0, 1, 5), StartTimes.NONE);
        x.want(0, 100, 49);
        check.due("warmer", x.costs(0, 1, 5, 1), 0);
        // In time: what comes behind the wanted minute is nothing to it.
        x.outside(100, 10000);
        x.want(0, 100, 51);
        check.due("too late", x.costs(0, 1, 5, 1), StartTimes.NONE);
    }

    private static void sumOverItsMinutes() {
        check.sentence("it COSTS the sum over its minutes of power times the hour's price");
        StartTimes x = steady(125, 0);
        x.price(0, 7);
        x.price(1, 11);
        x.price(2, 13);
        check.due("a quarter in two hours", x.costs(0, 1, 30, 1), 10 * (25 * 11 + 5 * 13));
        check.due("a quarter in two others", x.costs(0, 3, 25, 1), 10 * (10 * 7 + 15 * 11));
        check.due("two of three", x.costs(0, 3, 25, 5), 10 * (10 * 7 + 15 * 11 + 20 * 11 + 5 * 13));
        check.due("all of ten minutes", x.costs(0, 10, 1, 1023), 10 * (5 * 11 + 5 * 13));
    }

    private static void moreThanAnInt() {
        check.sentence("long costs: the most that a set can cost");
        StartTimes x = steady(1439, 10000);
        x.set(0, 1, 100000);
        for (int hour = 0; hour < 24; hour++) {
            x.price(hour, 1000);
        }
        check.due("all quarters", x.costs(0, 10, 30, 1023), 30000000000L);
        check.due("one quarter", x.costs(0, 10, 30, 1), 3000000000L);
        // Two quarters do; five cost more than an int holds, which must not make them cheaper.
        x.zone(1000, 1000);
        x.set(1, 1, 100000);
        x.want(1, 1439, 900);
        check.due("two quarters", x.cheapest(1, 10, 5), 3);
        check.due("two quarters", x.costs(1, 10, 5, 3), 1000000000L);
        check.due("five quarters", x.costs(1, 10, 5, 31), 2500000000L);
    }

    private static void minutesBeforeZeroAreNone() {
        check.sentence("Minutes before 0 are none");
        // Three quarters of 30 minutes: -45 .. -16, -15 .. 14, 15 .. 44
        StartTimes x = steady(45, 150);
        check.due("a quarter before 0 heats nothing", x.costs(0, 3, 30, 1), StartTimes.NONE);
        check.due("one in part before 0 heats in the others", x.costs(0, 3, 30, 2), 0);
        x.want(0, 45, 151);
        check.due("and in no more", x.costs(0, 3, 30, 2), StartTimes.NONE);
        check.due("nor with the one before", x.costs(0, 3, 30, 3), StartTimes.NONE);
        x.want(0, 45, 450);
        check.due("all", x.costs(0, 3, 30, 7), 0);
        x.want(0, 45, 451);
        check.due("all", x.costs(0, 3, 30, 7), StartTimes.NONE);
        check.refused("a fourth is no quarter", () -> x.costs(0, 3, 30, 8));
    }

    private static void minutesBeforeZeroCostNothing() {
        check.sentence("Minutes before 0 .. cost nothing");
        StartTimes x = steady(45, 0);
        for (int hour = 0; hour < 24; hour++) {
            x.price(hour, 1);
        }
        check.due("a quarter before 0", x.costs(0, 3, 30, 1), 0);
        check.due("one in part before 0", x.costs(0, 3, 30, 2), 150);
        check.due("both", x.costs(0, 3, 30, 3), 150);
        check.due("all", x.costs(0, 3, 30, 7), 450);
        check.due("just from 0 on", x.costs(0, 3, 15, 7), 450);
        check.due("just from 0 on, the first", x.costs(0, 3, 15, 1), 150);
        // One that costs nothing and heats nothing is left out as a greater number.
        x.want(0, 45, 150);
        check.due("cheapest", x.cheapest(0, 3, 30), 2);
    }

    private static void wantedAtMinuteZero() {
        check.sentence("QUARTERS of a zone that wants something at minute 0: all before it");
        StartTimes x = steady(0, 0);
        x.price(0, 5);
        check.due("warm already", x.cheapest(0, 10, 30), 0);
        check.due("no minute costs", x.costs(0, 10, 30, 1023), 0);
        x.want(0, 0, 1);
        check.due("no minute heats", x.cheapest(0, 10, 30), StartTimes.NONE);
        check.due("no minute heats", x.costs(0, 10, 30, 1023), StartTimes.NONE);
        x.want(0, 1, 10);
        check.due("one minute", x.cheapest(0, 10, 30), 512);
        check.due("one minute", x.costs(0, 10, 30, 512), 50);
    }

    private static void doesAndCostsLeast() {
        check.sentence("The SET of quarters that does and costs least");
        StartTimes x = steady(180, 600);
        x.price(0, 2);
        x.price(1, 3);
        x.price(2, 1);
        // Six half hours, two in each of three hours.
        check.due("the cheapest hour", x.cheapest(0, 6, 30), 48);
        x.want(0, 180, 601);
        check.due("and a half of the next", x.cheapest(0, 6, 30), 49);
        x.price(1, 0);
        check.due("what costs nothing", x.cheapest(0, 6, 30), 12 + 16);
        // Two cheap quarters against one dear one that does alone.
        StartTimes y = new StartTimes();
        y.zone(1, 20);
        y.set(0, 1, 100);
        y.want(0, 120, 1500);
        y.price(0, 1);
        y.price(1, 1000);
        check.due("one that is dear, as no cheap one does", y.cheapest(0, 4, 30), 8);
    }

    private static void leastAsANumber() {
        check.sentence("of several the least as a number");
        StartTimes x = steady(180, 300);
        check.due("one of six", x.cheapest(0, 6, 30), 1);
        x.want(0, 180, 900);
        check.due("three of six", x.cheapest(0, 6, 30), 7);
        for (int hour = 0; hour < 3; hour++) {
            x.price(hour, 4);
        }
        check.due("three of six at one price", x.cheapest(0, 6, 30), 7);
        x.price(0, 5);
        check.due("three of the later four", x.cheapest(0, 6, 30), 4 + 8 + 16);
        // Of those at no price, two early quarters are less as a number than one late one.
        StartTimes y = new StartTimes();
        y.zone(1, 1000);
        y.set(0, 1, 10);
        y.set(0, 0, 1000);
        y.want(0, 180, 1200);
        check.due("two of the first", y.cheapest(0, 6, 30), 3);
        check.due("the last alone", y.costs(0, 6, 30, 32), 0);
    }

    private static void emptySet() {
        check.sentence("The SET of quarters that does and costs least: the empty one");
        StartTimes x = steady(180, 0);
        check.due("at no price", x.cheapest(0, 6, 30), 0);
        x.price(1, 5);
        check.due("at a price", x.cheapest(0, 6, 30), 0);
        check.due("it costs nothing", x.costs(0, 6, 30, 0), 0);
    }

    private static void noneIfNoneDoes() {
        check.sentence("cheapest: NONE if none does");
        StartTimes x = steady(600, 101);
        check.due("ten minutes are too few", x.cheapest(0, 10, 1), StartTimes.NONE);
        check.due("eleven are not", x.cheapest(0, 10, 2), 63);
        x.want(0, 600, 100);
        check.due("all of ten", x.cheapest(0, 10, 1), 1023);
    }

    private static void noneIfItDoesNotDo() {
        check.sentence("costs: NONE if it does not do");
        StartTimes x = steady(600, 100);
        x.price(9, 1);
        check.due("nine", x.costs(0, 10, 1, 1022), StartTimes.NONE);
        check.due("none", x.costs(0, 10, 1, 0), StartTimes.NONE);
        check.due("ten", x.costs(0, 10, 1, 1023), 100);
    }

    private static void costsNothingIsNotNone() {
        check.sentence("costs: 0 of a set that does");
        StartTimes x = steady(600, 10);
        check.due("at no price", x.costs(0, 1, 1, 1), 0);
        check.due("not at all", x.costs(0, 1, 1, 0), StartTimes.NONE);
    }

    private static void noPower() {
        check.sentence("a POWER (0 ..): costs nothing and heats nothing");
        StartTimes x = steady(600, 0);
        x.set(0, 1, 0);
        x.price(9, 1000);
        check.due("costs", x.costs(0, 10, 30, 1023), 0);
        check.due("cheapest", x.cheapest(0, 10, 30), 0);
        x.want(0, 600, 1);
        check.due("costs", x.costs(0, 10, 30, 1023), StartTimes.NONE);
        check.due("cheapest", x.cheapest(0, 10, 30), StartTimes.NONE);
    }

    private static void wantsNothing() {
        check.sentence("illegal state: the zone wants nothing");
        StartTimes x = steady(600, 0);
        x.zone(1, 1);
        check.outOfState("cheapest of one that never wanted", () -> x.cheapest(1, 1, 1));
        check.outOfState("costs of one that never wanted", () -> x.costs(1, 10, 30, 1023));
        check.due("cheapest of the other", x.cheapest(0, 1, 1), 0);
        x.want(0, StartTimes.NONE, 0);
        check.outOfState("cheapest of one that wants no more", () -> x.cheapest(0, 10, 30));
        check.outOfState("costs of one that wants no more", () -> x.costs(0, 1, 1, 0));
        x.want(1, 0, 0);
        check.due("cheapest of one that wants now", x.cheapest(1, 1, 1), 0);
    }

    private static void leavesThePlanAlone() {
        check.sentence("a SET heats .. not by the plan");
        StartTimes x = steady(600, 100);
        check.due("start", x.start(0), 590);
        x.cheapest(0, 10, 30);
        x.costs(0, 10, 30, 1023);
        check.due("start", x.start(0), 590);
        check.due("used", x.used(300), 0);
        check.due("at", x.at(0, 600), 100);
    }
}
