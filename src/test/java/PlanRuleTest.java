/** THE PLAN, and what is asked of it: one method for each sentence, at its edges. */
public final class PlanRuleTest {
    private static final Check check = new Check();

    public static void main(String[] args) {
        leastRankFirst();
        ofTheseByNumber();
        fromStartToTheMinuteBefore();
        powerOrWhatIsLeft();
        latestThatDoes();
        upToTheWantedOne();
        asWarmOrWarmer();
        lateStartsAtZero();
        startZeroThatDoes();
        wantedAtMinuteZero();
        wantedAtTheLastMinute();
        otherMinutesGetNothing();
        zonesThatWantNothing();
        lateZonesTakeToo();
        minuteZeroIsGivenBack();
        zonesBehindAPlan();
        nothingOfTheMachine();
        wantsAreReplaced();
        noneIsNothing();
        atBothEnds();
        usedTogether();
        coldFromTheWantedOne();
        coldToTheLastMinute();
        coldIsLessWarm();
        coldMayCease();
        seventhZone();
        check.end();
    }

    /** Zones that get 10 warmer in each minute with their power, wanting 50 at minute 100. */
    private static StartTimes alike(int count, int machine) {
        StartTimes x = new StartTimes();
        for (int i = 0; i < count; i++) {
            x.zone(1, 1000);
            x.set(i, 1, 10);
            x.want(i, 100, 50);
        }
        x.machine(machine);
        return x;
    }

    private static void leastRankFirst() {
        check.sentence("zones are taken by their ranks, the least first");
        StartTimes x = alike(3, 10);
        x.set(0, 2, 9);
        x.set(1, 2, 0);
        x.set(2, 2, 8);
        check.due("rank 0", x.start(1), 95);
        check.due("rank 8", x.start(2), 90);
        check.due("rank 9", x.start(0), 85);
        x.set(1, 2, 9);
        check.due("rank 8", x.start(2), 95);
        check.due("rank 9, the lesser number", x.start(0), 90);
        check.due("rank 9, the greater number", x.start(1), 85);
    }

    private static void ofTheseByNumber() {
        check.sentence("of these by their numbers");
        StartTimes x = alike(6, 10);
        for (int i = 0; i < 6; i++) {
            check.due("zone " + i, x.start(i), 95 - 5 * i);
        }
        for (int i = 5; i >= 0; i--) {
            x.set(i, 2, 9);
        }
        for (int i = 0; i < 6; i++) {
            check.due("zone " + i + " of rank 9", x.start(i), 95 - 5 * i);
        }
    }

    private static void fromStartToTheMinuteBefore() {
        check.sentence("HEATS from its START to the minute before the one it wants it at");
        StartTimes x = alike(1, 100);
        check.due("start", x.start(0), 95);
        check.due("before the start", x.used(94), 0);
        check.due("at the start", x.used(95), 10);
        check.due("the minute before the wanted one", x.used(99), 10);
        check.due("the wanted one", x.used(100), 0);
        check.due("warmth at the start", x.at(0, 95), 0);
        check.due("warmth behind it", x.at(0, 96), 10);
        check.due("warmth when wanted", x.at(0, 100), 50);
        check.due("warmth behind it", x.at(0, 101), 50);
    }

    private static void powerOrWhatIsLeft() {
        check.sentence("it gets its power, or what is left of the machine then, if that is less");
        int[][] machineAndWarmth = {{20, 10}, {21, 10}, {19, 9}, {11, 1}, {10, 0}, {9, 0}};
        for (int[] row : machineAndWarmth) {
            StartTimes x = alike(2, row[0]);
            x.want(0, 1, 10000);
            x.want(1, 1, 10000);
            check.due("the first of " + row[0], x.at(0, 1), Math.min(10, row[0]));
            check.due("the second of " + row[0], x.at(1, 1), row[1]);
            check.due("both of " + row[0], x.used(0), Math.min(20, row[0]));
        }
        // The second has all of the machine in minutes in which the first does not heat.
        StartTimes y = alike(2, 14);
        check.due("five minutes of 4 and three of 10", y.start(1), 92);
        check.due("its first minute", y.at(1, 93), 10);
        check.due("its last minute", y.at(1, 100) - y.at(1, 99), 4);
    }

    private static void latestThatDoes() {
        check.sentence("Its START is the latest minute from which on it heats so that it is as warm as it wants");
        StartTimes x = alike(1, 100);
        for (int minutes = 0; minutes <= 99; minutes++) {
            x.want(0, 99, minutes * 10);
            check.due("start for " + minutes * 10, x.start(0), 99 - minutes);
        }
        // With a leak, starting later means to lose less on the way: 90, then 171, then 243.
        StartTimes y = new StartTimes();
        y.zone(1, 10);
        y.set(0, 1, 100);
        y.want(0, 1000, 100);
        check.due("one minute", y.start(0), 999);
        y.want(0, 1000, 101);
        check.due("two minutes", y.start(0), 998);
        y.want(0, 1000, 190);
        check.due("two minutes are just enough", y.start(0), 998);
        y.want(0, 1000, 191);
        check.due("three minutes", y.start(0), 997);
    }

    private static void upToTheWantedOne() {
        check.sentence("the latest minute (up to the wanted one)");
        StartTimes x = alike(1, 100);
        int[] minutes = {0, 1, 700, 1438, 1439};
        for (int minute : minutes) {
            x.want(0, minute, 0);
            check.due("start of one that is warm already", x.start(0), minute);
            check.due("late", x.late(0), false);
            check.due("used before", x.used(Math.max(0, minute - 1)), 0);
            check.due("used then", x.used(minute), 0);
        }
    }

    private static void asWarmOrWarmer() {
        check.sentence("as warm as it wants, or warmer, at that minute");
        StartTimes x = alike(1, 100);
        x.want(0, 100, 50);
        check.due("just as warm", x.at(0, 100), 50);
        check.due("start", x.start(0), 95);
        x.want(0, 100, 51);
        check.due("warmer", x.at(0, 100), 60);
        check.due("start", x.start(0), 94);
        x.want(0, 100, 49);
        check.due("warmer", x.at(0, 100), 50);
        check.due("start", x.start(0), 95);
        x.set(0, 0, -50);
        x.want(0, 100, -45);
        check.due("below 0 as well", x.at(0, 100), -40);
        check.due("start", x.start(0), 99);
    }

    private static void lateStartsAtZero() {
        check.sentence("if there is none (it is LATE) it is 0");
        StartTimes x = alike(1, 100);
        x.want(0, 5, 51);
        check.due("start", x.start(0), 0);
        check.due("late", x.late(0), true);
        check.due("it heats from 0 all the same", x.used(0), 10);
        check.due("to the minute before", x.used(4), 10);
        check.due("and no longer", x.used(5), 0);
        check.due("as warm as it can be", x.at(0, 5), 50);
        x.set(0, 1, 0);
        x.want(0, 1439, 1);
        check.due("start without power", x.start(0), 0);
        check.due("late without power", x.late(0), true);
    }

    private static void startZeroThatDoes() {
        check.sentence("it is LATE only if there is none");
        StartTimes x = alike(1, 100);
        x.want(0, 5, 50);
        check.due("start", x.start(0), 0);
        check.due("late", x.late(0), false);
        x.want(0, 5, 41);
        check.due("start", x.start(0), 0);
        check.due("late", x.late(0), false);
        x.want(0, 5, 40);
        check.due("start", x.start(0), 1);
    }

    private static void wantedAtMinuteZero() {
        check.sentence("MINUTES are 0 .. 1439: a want at the first");
        StartTimes x = alike(1, 100);
        x.set(0, 0, 77);
        x.want(0, 0, 77);
        check.due("start", x.start(0), 0);
        check.due("late when just as warm", x.late(0), false);
        x.want(0, 0, 78);
        check.due("start", x.start(0), 0);
        check.due("late", x.late(0), true);
        check.due("no minute to heat in", x.used(0), 0);
        check.due("no heat", x.at(0, 1), 77);
    }

    private static void wantedAtTheLastMinute() {
        check.sentence("MINUTES are 0 .. 1439: a want at the last");
        StartTimes x = alike(1, 100);
        x.want(0, 1439, 50);
        check.due("start", x.start(0), 1434);
        check.due("used in the minute before", x.used(1438), 10);
        check.due("used in the last", x.used(1439), 0);
        check.due("at 1439", x.at(0, 1439), 50);
        check.due("at 1440", x.at(0, 1440), 50);
        // As warm as it can be after 1439 minutes: that is not late.
        int warmest = 0;
        for (int i = 0; i < 1439; i++) {
            warmest += 10 - warmest / 1000;
        }
        x.want(0, 1439, warmest);
        check.due("as warm as it can be", x.at(0, 1439), warmest);
        check.due("late", x.late(0), false);
        x.want(0, 1439, warmest + 1);
        check.due("start of what can't be", x.start(0), 0);
        check.due("late", x.late(0), true);
    }

    private static void otherMinutesGetNothing() {
        check.sentence("Other minutes .. get nothing");
        int sum = 0;
        // A new object every hour, because one is promised to answer 512 calls.
        for (int hour = 0; hour < 24; hour++) {
            StartTimes x = alike(1, 100);
            for (int minute = 0; minute < 60; minute++) {
                sum += x.used(hour * 60 + minute);
            }
        }
        check.due("five minutes of 10", sum, 50);
    }

    private static void zonesThatWantNothing() {
        check.sentence("zones that want nothing, get nothing");
        StartTimes x = alike(2, 10);
        x.set(0, 1, 100000);
        x.want(0, StartTimes.NONE, 10000);
        check.due("the other has all of the machine", x.start(1), 95);
        check.due("warmth", x.at(0, 100), 0);
        check.due("start", x.start(0), StartTimes.NONE);
        check.due("late", x.late(0), false);
        check.due("cold", x.cold(0), 0);
        x.want(1, StartTimes.NONE, 0);
        check.due("used", x.used(99), 0);
    }

    private static void lateZonesTakeToo() {
        check.sentence("a LATE zone heats from its START, 0: nothing is left for others there");
        StartTimes x = alike(2, 10);
        x.want(0, 100, 10000);
        check.due("the first is late", x.late(0), true);
        check.due("nothing is left for the second", x.late(1), true);
        check.due("its start", x.start(1), 0);
        check.due("its warmth", x.at(1, 100), 0);
        x.want(1, 101, 10);
        check.due("but for the minute behind", x.start(1), 100);
        x.want(1, 101, 11);
        check.due("and no other", x.late(1), true);
        check.due("it gets what there is", x.at(1, 101), 10);
    }

    private static void minuteZeroIsGivenBack() {
        check.sentence("what is left of the machine then: by the plan of what is told now");
        StartTimes x = alike(2, 10);
        x.want(0, 1, 10000);
        x.want(1, 1, 10);
        check.due("used in minute 0", x.used(0), 10);
        check.due("nothing left for the second", x.late(1), true);
        x.want(0, StartTimes.NONE, 0);
        check.due("used in minute 0", x.used(0), 10);
        check.due("all left for the second", x.late(1), false);
        x.want(1, StartTimes.NONE, 0);
        check.due("used in minute 0", x.used(0), 0);
    }

    private static void zonesBehindAPlan() {
        check.sentence("A zone: its number; made when the plan has been asked for");
        StartTimes x = alike(1, 10);
        x.outside(0, 500);
        x.set(0, 0, 500);
        check.due("start", x.start(0), 100);
        check.due("a zone more", x.zone(1, 1), 1);
        check.due("it follows the outside", x.at(1, 1), 500);
        check.due("it wants nothing", x.start(1), StartTimes.NONE);
        check.due("the other's start", x.start(0), 100);
    }

    private static void nothingOfTheMachine() {
        check.sentence("THE MACHINE gives so much in a minute (0 ..)");
        StartTimes x = alike(1, 0);
        check.due("late", x.late(0), true);
        check.due("start", x.start(0), 0);
        check.due("used", x.used(99), 0);
        x.want(0, 100, 0);
        check.due("warm enough without", x.start(0), 100);
        check.due("late", x.late(0), false);
    }

    private static void wantsAreReplaced() {
        check.sentence("What a zone wants at a minute");
        StartTimes x = alike(1, 100);
        x.want(0, 200, 30);
        check.due("start", x.start(0), 197);
        check.due("the earlier want is gone", x.used(99), 0);
        x.want(0, 50, 20);
        check.due("start", x.start(0), 48);
        check.due("the later want is gone", x.used(199), 0);
    }

    private static void noneIsNothing() {
        check.sentence("What a zone wants at a minute (NONE: nothing)");
        StartTimes x = alike(1, 100);
        check.due("start", x.start(0), 95);
        x.want(0, StartTimes.NONE, 50);
        check.due("start", x.start(0), StartTimes.NONE);
        check.due("late", x.late(0), false);
        check.due("cold", x.cold(0), 0);
        check.due("taught", x.taught(0), StartTimes.NONE);
        check.due("used", x.used(99), 0);
        check.due("at", x.at(0, 100), 0);
        check.outOfState("cheapest", () -> x.cheapest(0, 1, 1));
        check.outOfState("costs", () -> x.costs(0, 1, 1, 0));
        x.want(0, 100, 50);
        check.due("start of a new want", x.start(0), 95);
    }

    private static void atBothEnds() {
        check.sentence("A zone's warmth at the beginning of a minute (0 .. 1440)");
        StartTimes x = new StartTimes();
        x.zone(1, 2);
        x.set(0, 0, 64);
        check.due("at 0", x.at(0, 0), 64);
        check.due("at 1", x.at(0, 1), 32);
        x.outside(1439, 201);
        check.due("at 1439", x.at(0, 1439), 1);
        check.due("at 1440", x.at(0, 1440), 101);
    }

    private static void usedTogether() {
        check.sentence("What all zones get of the machine together in a minute");
        StartTimes x = alike(6, 1000000);
        for (int i = 0; i < 6; i++) {
            x.set(i, 1, 100000 - i);
        }
        check.due("all six", x.used(99), 600000 - 15);
        check.due("the minute before", x.used(98), 0);
        x.machine(250000);
        check.due("no more than the machine gives", x.used(99), 250000);
        check.due("the others before that", x.used(98), 250000);
        check.due("and none before", x.used(97), 0);
        // What is too little to warm is got all the same.
        StartTimes y = new StartTimes();
        y.zone(1000, 1);
        y.set(0, 1, 999);
        y.want(0, 2, 1);
        check.due("got, but too little to warm", y.used(1), 999);
        check.due("warmth", y.at(0, 2), 0);
    }

    /** As cold as the outside a minute ago, wanting 100 at a minute, unheated. */
    private static StartTimes follows(int minute) {
        StartTimes x = new StartTimes();
        x.zone(1, 1);
        x.set(0, 1, 0);
        x.want(0, minute, 100);
        return x;
    }

    private static void coldFromTheWantedOne() {
        check.sentence("In how many minutes, from the wanted one on");
        StartTimes x = follows(500);
        check.due("all from the wanted one on", x.cold(0), 940);
        x.want(0, 0, 100);
        check.due("all day", x.cold(0), 1440);
        x.outside(499, 100);
        check.due("all before it is warm", x.cold(0), 500);
        x.want(0, 499, 100);
        check.due("the wanted one alone", x.cold(0), 1);
        x.want(0, 500, 100);
        check.due("those before the wanted one are none", x.cold(0), 0);
    }

    private static void coldToTheLastMinute() {
        check.sentence("MINUTES are 0 .. 1439: cold in the last, 1440 is none");
        StartTimes x = follows(1439);
        check.due("cold in the last", x.cold(0), 1);
        x.outside(1438, 100);
        check.due("warm in the last", x.cold(0), 0);
        x.outside(1439, -100);
        check.due("1440 is none", x.cold(0), 0);
        check.due("though it is cold then", x.at(0, 1440), -100);
    }

    private static void coldIsLessWarm() {
        check.sentence("a zone is less warm than it wants at their beginning");
        StartTimes x = follows(500);
        x.outside(499, 100);
        check.due("just as warm", x.cold(0), 0);
        x.outside(600, 99);
        check.due("cold from the beginning of the next minute on", x.cold(0), 1440 - 601);
        x.outside(700, 101);
        check.due("warmer", x.cold(0), 100);
    }

    private static void coldMayCease() {
        check.sentence("In how many minutes: cold and warm by turns");
        StartTimes x = follows(100);
        for (int i = 0; i < 12; i++) {
            x.outside(199 + i * 100, i % 2 == 0 ? 100 : 99);
        }
        // Cold from 100 to 199, then by hundreds from 300, 500, 700, 900, 1100 and from 1300 on.
        check.due("cold", x.cold(0), 100 + 5 * 100 + 140);
    }

    private static void seventhZone() {
        check.sentence("illegal state: there are 6");
        StartTimes x = new StartTimes();
        for (int i = 0; i < 6; i++) {
            check.due("zone", x.zone(1000, 1000), i);
        }
        check.outOfState("a seventh", () -> x.zone(1000, 1000));
        check.outOfState("a seventh", () -> x.zone(1, 1));
        check.due("the sixth is there", x.start(5), StartTimes.NONE);
        check.refused("the seventh is not", () -> x.start(6));
    }
}
