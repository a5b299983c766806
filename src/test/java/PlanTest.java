/** Promises 7 to 11: start, late, at, used, cold. */
public final class PlanTest {
    private static final Check check = new Check();

    public static void main(String[] args) {
        oneZone();
        roundsToZero();
        latestStart();
        late();
        wantedAtMinuteZero();
        sharesByRank();
        sharesByNumber();
        partOfTheMachine();
        planFollowsWhatIsTold();
        cold();
        largest();
        inBounds();
        check.end();
    }

    private static void oneZone() {
        StartTimes x = new StartTimes();
        x.zone(10, 100);
        x.want(0, 400, 2000);
        check.due("start", x.start(0), 377);
        check.due("late", x.late(0), false);
        check.due("at 377", x.at(0, 377), 0);
        check.due("at 378", x.at(0, 378), 100);
        check.due("at 379", x.at(0, 379), 199);
        check.due("at 399", x.at(0, 399), 1995);
        check.due("at 400", x.at(0, 400), 2076);
        check.due("at 401", x.at(0, 401), 2056);
        check.due("used 376", x.used(376), 0);
        check.due("used 377", x.used(377), 1000);
        check.due("used 399", x.used(399), 1000);
        check.due("used 400", x.used(400), 0);
    }

    private static void roundsToZero() {
        StartTimes x = new StartTimes();
        x.zone(3, 100);
        x.set(0, 0, 99);
        check.due("cooling by less than 1", x.at(0, 1440), 99);
        x.set(0, 0, -99);
        check.due("warming by less than 1", x.at(0, 1440), -99);
        x.set(0, 0, -199);
        check.due("warming by 1.99", x.at(0, 1), -198);
        x.set(0, 0, 199);
        check.due("cooling by 1.99", x.at(0, 1), 198);
        x.set(0, 0, 50);
        x.set(0, 1, 5);
        x.want(0, 1, 51);
        check.due("both quotients rounded by themselves", x.at(0, 1), 51);
        x.set(0, 1, 2);
        check.due("heat of less than 1", x.at(0, 1), 50);
        check.due("late with heat of less than 1", x.late(0), true);
        check.due("heat of less than 1 is used all the same", x.used(0), 2);
    }

    private static void latestStart() {
        StartTimes x = new StartTimes();
        x.zone(10, 1000);
        x.set(0, 1, 100);
        for (int minutes = 0; minutes <= 90; minutes++) {
            x.want(0, 700, minutes * 10);
            check.due("start for just so much", x.start(0), 700 - minutes);
            check.due("late", x.late(0), false);
            check.due("at 700", x.at(0, 700), minutes * 10);
        }
        x.want(0, 700, 1);
        check.due("start for a little", x.start(0), 699);
        check.due("it may be warmer", x.at(0, 700), 10);
    }

    private static void late() {
        StartTimes x = new StartTimes();
        x.zone(10, 1000);
        x.set(0, 1, 100);
        x.want(0, 20, 200);
        check.due("start 0 that does", x.start(0), 0);
        check.due("start 0 that does is not late", x.late(0), false);
        x.want(0, 20, 201);
        check.due("start of a late one", x.start(0), 0);
        check.due("late", x.late(0), true);
        check.due("a late one heats from 0", x.used(0), 100);
        check.due("a late one's warmth", x.at(0, 20), 200);
        x.set(0, 0, 10000);
        x.want(0, 20, 10000);
        check.due("cooling from the wanted warmth", x.late(0), false);
        check.due("10 less in minute 0, then 1 more in each", x.start(0), 1);
    }

    private static void wantedAtMinuteZero() {
        StartTimes x = new StartTimes();
        x.zone(1, 1);
        x.set(0, 0, 50);
        x.want(0, 0, 50);
        check.due("start", x.start(0), 0);
        check.due("late", x.late(0), false);
        x.want(0, 0, 51);
        check.due("start", x.start(0), 0);
        check.due("late", x.late(0), true);
        check.due("used", x.used(0), 0);
        check.due("at 0", x.at(0, 0), 50);
    }

    private static StartTimes twoThatShare() {
        StartTimes x = new StartTimes();
        for (int i = 0; i < 2; i++) {
            x.zone(1, 1000);
            x.set(i, 1, 10);
            x.want(i, 100, 50);
        }
        x.machine(10);
        return x;
    }

    private static void sharesByRank() {
        StartTimes x = twoThatShare();
        x.set(0, 2, 9);
        x.set(1, 2, 8);
        check.due("the lesser rank first", x.start(1), 95);
        check.due("the greater rank before it", x.start(0), 90);
        check.due("all of the machine", x.used(95), 10);
        check.due("all of the machine", x.used(94), 10);
        check.due("all of the machine", x.used(90), 10);
        check.due("none before", x.used(89), 0);
        x.set(0, 2, 7);
        check.due("ranks turned round", x.start(0), 95);
        check.due("ranks turned round", x.start(1), 90);
    }

    private static void sharesByNumber() {
        StartTimes x = twoThatShare();
        check.due("the lesser number first", x.start(0), 95);
        check.due("the greater number before it", x.start(1), 90);
        x.want(0, StartTimes.NONE, 0);
        check.due("a zone that wants nothing gets nothing", x.start(1), 95);
        check.due("a zone that wants nothing gets nothing", x.used(94), 0);
        check.due("a zone that wants nothing gets nothing", x.at(0, 1440), 0);
    }

    private static void partOfTheMachine() {
        StartTimes x = twoThatShare();
        x.machine(14);
        check.due("the first gets all it takes", x.start(0), 95);
        check.due("the second gets 4 in each of 5 minutes", x.start(1), 92);
        check.due("a minute of both", x.used(97), 14);
        check.due("a minute of the second", x.used(94), 10);
        check.due("the second at its start", x.at(1, 92), 0);
        check.due("the second with its power", x.at(1, 95), 30);
        check.due("the second with what is left", x.at(1, 96), 34);
        check.due("the second in time", x.at(1, 100), 50);
        x.machine(3);
        check.due("less than its power", x.start(0), 83);
        check.due("nothing left for the second there", x.start(1), 66);
    }

    private static void planFollowsWhatIsTold() {
        StartTimes x = twoThatShare();
        check.due("start", x.start(0), 95);
        x.set(0, 0, 10);
        check.due("start after a warmth", x.start(0), 96);
        check.due("the other's start after a warmth", x.start(1), 91);
        x.set(0, 1, 5);
        check.due("start after a power", x.start(0), 92);
        x.want(0, 101, 50);
        check.due("start after a want", x.start(0), 93);
        x.outside(90, 2000);
        check.due("start after the outside", x.start(0), 95);
        x.machine(1);
        check.due("start after the machine", x.start(0), 72);
        x.zone(1, 1);
        check.due("start of a zone after a plan", x.start(2), StartTimes.NONE);
        check.due("warmth of a zone after a plan", x.at(2, 91), 2000);
    }

    private static void cold() {
        StartTimes x = new StartTimes();
        x.zone(10, 100);
        x.want(0, 400, 2000);
        check.due("cold", x.cold(0), 1036);
        x.want(0, 0, 1);
        check.due("cold all day", x.cold(0), 1440);
        x.want(0, 1439, 10000);
        x.set(0, 1, 0);
        check.due("cold in the last minute", x.cold(0), 1);
        x.want(0, 1439, 0);
        check.due("not cold when just so warm", x.cold(0), 0);
        x.outside(1000, -10000);
        x.want(0, 500, 0);
        check.due("cold from the beginning of the next minute on", x.cold(0), 439);
        x.want(0, StartTimes.NONE, 0);
        check.due("cold of one that wants nothing", x.cold(0), 0);
    }

    private static void largest() {
        StartTimes x = new StartTimes();
        x.machine(1000000);
        for (int i = 0; i < 6; i++) {
            x.zone(1, 1000);
            x.set(i, 0, 0);
            x.set(i, 1, 100000);
            x.want(i, 1439, 10000);
        }
        check.due("all powers together", x.used(1438), 600000);
        check.due("the warmest", x.at(5, 1439), 100000);
        check.due("a minute later", x.at(5, 1440), 99900);
    }

    private static void inBounds() {
        StartTimes x = new StartTimes();
        x.zone(1, 1);
        int[] zones = {-1, 1, 5, 6, Integer.MIN_VALUE, Integer.MAX_VALUE};
        for (int z : zones) {
            check.refused("start", () -> x.start(z));
            check.refused("late", () -> x.late(z));
            check.refused("at", () -> x.at(z, 0));
            check.refused("cold", () -> x.cold(z));
        }
        int[] minutes = {-1, 1441, Integer.MIN_VALUE, Integer.MAX_VALUE};
        for (int m : minutes) {
            check.refused("at", () -> x.at(0, m));
            check.refused("used", () -> x.used(m));
        }
        check.refused("used(1440)", () -> x.used(1440));
        check.due("at(0, 1440)", x.at(0, 1440), 0);
        check.due("used(1439)", x.used(1439), 0);
    }
}
