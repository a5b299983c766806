/** The START BY WHAT DAYS TEACH and the LESSON's roundings: one method for each sentence. */
public final class TeachingRuleTest {
    private static final Check check = new Check();

    public static void main(String[] args) {
        startLessItsLesson();
        roundedTowardsZero();
        notBelowZero();
        lastMinuteAtMost();
        noneIfItWantsNothing();
        lateOnesAreTaughtFromZero();
        lateAndEarly();
        exactly();
        lowestTerms();
        nothingIsLearned();
        allIsLearned();
        fadeOfThatDay();
        justTenToTheNinth();
        aboveTenToTheNinth();
        nearestToTenToTheNinth();
        belowInLowestTerms();
        millionthsInLowestTerms();
        millionthsToZero();
        millionthsOfLargeLessons();
        goesOnFromTheRounded();
        eachZoneForItself();
        fiveHundredDays();
        check.end();
    }

    private static StartTimes one() {
        StartTimes x = new StartTimes();
        x.zone(1, 1000);
        x.set(0, 1, 10);
        x.want(0, 800, 1000);
        return x;
    }

    private static void lesson(StartTimes x, long above, long below) {
        check.due("lesson above", x.lesson(0, 0), above);
        check.due("lesson below", x.lesson(0, 1), below);
    }

    /** A zone whose lesson is so many minutes and no part of one. */
    private static StartTimes taughtBy(int minutes) {
        StartTimes x = one();
        x.fade(1, 1);
        x.day(0, minutes);
        return x;
    }

    private static void startLessItsLesson() {
        check.sentence("is its START less its LESSON");
        check.due("start", taughtBy(5).start(0), 700);
        check.due("late by 5", taughtBy(5).taught(0), 695);
        check.due("early by 5", taughtBy(-5).taught(0), 705);
        check.due("in time", taughtBy(0).taught(0), 700);
        check.due("behind the wanted minute", taughtBy(-200).taught(0), 900);
    }

    private static void roundedTowardsZero() {
        check.sentence("less its LESSON (rounded towards 0)");
        int[][] daysAndTaught = {{1, 700}, {3, 699}, {5, 698}, {-1, 700}, {-3, 701}, {-5, 702}};
        for (int[] row : daysAndTaught) {
            StartTimes x = one();
            x.day(0, row[0]);
            lesson(x, row[0], 2);
            check.due("taught", x.taught(0), row[1]);
        }
    }

    private static void notBelowZero() {
        check.sentence("not below 0");
        check.due("just 1", taughtBy(699).taught(0), 1);
        check.due("just 0", taughtBy(700).taught(0), 0);
        check.due("one less", taughtBy(701).taught(0), 0);
        check.due("the most", taughtBy(1440).taught(0), 0);
    }

    private static void lastMinuteAtMost() {
        check.sentence("1439 at most");
        check.due("just 1438", taughtBy(-738).taught(0), 1438);
        check.due("just 1439", taughtBy(-739).taught(0), 1439);
        check.due("one more", taughtBy(-740).taught(0), 1439);
        check.due("the most", taughtBy(-1440).taught(0), 1439);
    }

    private static void noneIfItWantsNothing() {
        check.sentence("NONE if it wants nothing");
        int[] minutes = {0, 5, -5, 1440, -1440};
        for (int m : minutes) {
            StartTimes x = taughtBy(m);
            x.want(0, StartTimes.NONE, 0);
            check.due("taught", x.taught(0), StartTimes.NONE);
            lesson(x, m, 1);
        }
    }

    private static void lateOnesAreTaughtFromZero() {
        check.sentence("if there is none (it is LATE) it is 0: taught");
        StartTimes late = taughtBy(30);
        late.want(0, 5, 1000);
        check.due("taught", late.taught(0), 0);
        StartTimes early = taughtBy(-30);
        early.want(0, 5, 1000);
        check.due("taught", early.taught(0), 30);
    }

    private static void lateAndEarly() {
        check.sentence("A day teaches how many minutes it came late (below 0: early)");
        StartTimes x = one();
        x.day(0, 10);
        lesson(x, 5, 1);
        StartTimes y = one();
        y.day(0, -10);
        lesson(y, -5, 1);
        y.day(0, 0);
        lesson(y, -5, 2);
    }

    private static void exactly() {
        check.sentence("LESSON becomes LESSON + (that - LESSON) * above / below, exactly");
        StartTimes x = one();
        x.fade(2, 3);
        x.day(0, 1);
        lesson(x, 2, 3);
        x.day(0, 1);
        lesson(x, 8, 9);
        x.fade(1, 7);
        x.day(0, -4);
        lesson(x, 4, 21);
        x.day(0, 0);
        lesson(x, 8, 49);
        x.fade(3, 5);
        x.day(0, -1);
        lesson(x, -131, 245);
    }

    private static void lowestTerms() {
        check.sentence("A zone's LESSON in lowest terms");
        StartTimes x = one();
        x.fade(6, 15);
        x.day(0, 1);
        lesson(x, 2, 5);
        x.day(0, -5);
        lesson(x, -44, 25);
        x.fade(50, 100);
        x.day(0, 44);
        lesson(x, 528, 25);
        x.fade(1, 2);
        x.day(0, -22);
        lesson(x, -11, 25);
        StartTimes y = taughtBy(6);
        y.fade(1, 2);
        y.day(0, -6);
        lesson(y, 0, 1);
        y.fade(1, 100);
        y.day(0, 100);
        lesson(y, 1, 1);
    }

    private static void nothingIsLearned() {
        check.sentence("0 <= above: nothing is learned");
        StartTimes x = one();
        x.day(0, 7);
        x.fade(0, 100);
        x.day(0, 1440);
        lesson(x, 7, 2);
        x.fade(0, 1);
        x.day(0, -1440);
        lesson(x, 7, 2);
    }

    private static void allIsLearned() {
        check.sentence("above <= below: all is learned");
        StartTimes x = one();
        x.day(0, 7);
        x.fade(100, 100);
        x.day(0, -13);
        lesson(x, -13, 1);
        x.fade(1, 1);
        x.day(0, 14);
        lesson(x, 14, 1);
        x.day(0, 0);
        lesson(x, 0, 1);
    }

    private static void fadeOfThatDay() {
        check.sentence("How fast it learns: above / below");
        StartTimes x = one();
        x.day(0, 8);
        lesson(x, 4, 1);
        x.fade(1, 4);
        lesson(x, 4, 1);
        x.day(0, 8);
        lesson(x, 5, 1);
        x.fade(3, 4);
        x.day(0, 1);
        lesson(x, 2, 1);
    }

    /** A lesson of 1 / 10^8. */
    private static StartTimes tenToTheEighth() {
        StartTimes x = taughtBy(1);
        x.fade(99, 100);
        for (int i = 0; i < 4; i++) {
            x.day(0, 0);
        }
        lesson(x, 1, 100000000);
        return x;
    }

    private static void justTenToTheNinth() {
        check.sentence("above 10^9: 10^9 itself is not");
        StartTimes x = tenToTheEighth();
        x.fade(9, 10);
        x.day(0, 0);
        lesson(x, 1, 1000000000);
        x.fade(0, 100);
        x.day(0, 9);
        lesson(x, 1, 1000000000);
        x.fade(10, 10);
        x.day(0, 9);
        lesson(x, 9, 1);
    }

    private static void aboveTenToTheNinth() {
        check.sentence("if a below, in lowest terms, would be above 10^9");
        // 10^8 * 11 is above 10^9, 31^6 = 887503681 is not, 32^6 = 2^30 = 1073741824 is.
        StartTimes x = tenToTheEighth();
        x.fade(10, 11);
        x.day(0, 0);
        lesson(x, 0, 1);
        StartTimes y = taughtBy(1);
        y.fade(30, 31);
        StartTimes z = taughtBy(1);
        z.fade(31, 32);
        for (int i = 0; i < 5; i++) {
            y.day(0, 0);
            z.day(0, 0);
        }
        lesson(y, 1, 28629151);
        lesson(z, 1, 33554432);
        y.day(0, 0);
        z.day(0, 0);
        lesson(y, 1, 887503681);
        lesson(z, 0, 1);
    }

    /** 1 minute less and less by days in time, one for each of the belows: 1 / their product. */
    private static StartTimes oneOf(int[] belows) {
        StartTimes x = taughtBy(1);
        for (int below : belows) {
            x.fade(below - 1, below);
            x.day(0, 0);
        }
        return x;
    }

    private static void nearestToTenToTheNinth() {
        check.sentence("above 10^9: the nearest belows that days can lead to");
        lesson(oneOf(new int[] {61, 41, 85, 98, 48}), 1, 999999840);
        lesson(oneOf(new int[] {89, 59, 69, 69, 39}), 1, 975000429);
        lesson(oneOf(new int[] {89, 59, 69, 69, 40}), 0, 1);
    }

    private static void belowInLowestTerms() {
        check.sentence("a below, in lowest terms: what is not in lowest terms may be above 10^9");
        // 100 / 10^9 with a fade of 0 / 100 has a below of 10^9 * 100 before it is in lowest terms.
        StartTimes x = tenToTheEighth();
        x.fade(9, 10);
        x.day(0, 0);
        for (int below = 2; below <= 100; below += 7) {
            x.fade(0, below);
            x.day(0, 1440);
            lesson(x, 1, 1000000000);
        }
        // 2 / 3^18 halved: the 2 goes out against the fade's.
        StartTimes y = taughtBy(2);
        y.fade(80, 81);
        for (int i = 0; i < 4; i++) {
            y.day(0, 0);
        }
        y.fade(8, 9);
        y.day(0, 0);
        lesson(y, 2, 387420489);
        y.fade(2, 4);
        y.day(0, 0);
        lesson(y, 1, 387420489);
    }

    private static void millionthsInLowestTerms() {
        check.sentence("the lesson is rounded .. to millionths instead, in lowest terms");
        StartTimes x = tenToTheEighth();
        x.fade(1, 2);
        x.day(0, 1);
        lesson(x, 100000001, 200000000);
        x.fade(1, 7);
        x.day(0, 0);
        lesson(x, 300000003, 700000000);
        // 900000009 / 2450000000 are 367346.942.. millionths.
        x.day(0, 0);
        lesson(x, 183673, 500000);
        StartTimes y = taughtBy(1);
        y.fade(99, 100);
        for (int i = 0; i < 4; i++) {
            y.day(0, 0);
        }
        y.fade(1, 100);
        y.day(0, 50);
        // 0.5 + 0.99 / 10^8: 500000 millionths
        lesson(y, 1, 2);
    }

    private static long gcd(long a, long b) {
        return b == 0 ? a : gcd(b, a % b);
    }

    private static void millionthsToZero() {
        check.sentence("the lesson is rounded to 0 to millionths");
        for (int sign = -1; sign <= 1; sign += 2) {
            StartTimes x = one();
            x.fade(1, 100);
            for (int i = 0; i < 5; i++) {
                x.day(0, sign);
            }
            // 490099501 / 10^10 are 49009.9501 millionths.
            lesson(x, sign * 49009, 1000000);
            // 99.99 / 10^8 are 0.9999 millionths.
            StartTimes y = taughtBy(sign * 101);
            y.fade(99, 100);
            for (int i = 0; i < 4; i++) {
                y.day(0, 0);
            }
            lesson(y, sign * 101, 100000000);
            y.fade(1, 100);
            y.day(0, 0);
            lesson(y, 0, 1);
        }
    }

    private static void millionthsOfLargeLessons() {
        check.sentence("rounded to 0 to millionths: a lesson near 1440 as well");
        for (int sign = -1; sign <= 1; sign += 2) {
            StartTimes x = taughtBy(sign * 1440);
            x.fade(1, 97);
            int[] days = {1439, 1440, 1438, 1440};
            for (int minutes : days) {
                x.day(0, sign * minutes);
            }
            lesson(x, sign * 127479473376L, 88529281);
            x.day(0, sign * 1439);
            lesson(x, sign * 359989901L, 250000);
        }
    }

    private static void goesOnFromTheRounded() {
        check.sentence("LESSON becomes .. instead: the next day goes on from there");
        StartTimes x = one();
        x.fade(1, 100);
        for (int i = 0; i < 5; i++) {
            x.day(0, 1);
        }
        lesson(x, 49009, 1000000);
        x.day(0, 1);
        lesson(x, 5851891, 100000000);
    }

    private static void eachZoneForItself() {
        check.sentence("A day teaches a zone");
        StartTimes x = one();
        x.zone(1, 1);
        x.zone(1, 1);
        x.day(1, 6);
        x.day(2, -8);
        lesson(x, 0, 1);
        check.due("zone 1", x.lesson(1, 0), 3);
        check.due("zone 2", x.lesson(2, 0), -4);
        x.fade(1, 1);
        x.day(0, 2);
        lesson(x, 2, 1);
        check.due("zone 1", x.lesson(1, 0), 3);
        check.due("zone 2", x.lesson(2, 0), -4);
    }

    /** As many days as one object may be used for, of the largest lessons and the slowest fade. */
    private static void fiveHundredDays() {
        check.sentence("at most 512 calls");
        StartTimes x = one();
        x.fade(1, 97);
        for (int i = 0; i < 500; i++) {
            x.day(0, i % 3 == 0 ? 1439 : 1440);
        }
        long above = x.lesson(0, 0);
        long below = x.lesson(0, 1);
        check.due("below is 10^9 at most", below >= 1 && below <= 1000000000, true);
        check.due("in lowest terms", gcd(above, below), 1);
        check.due("between 1430 and 1440", above > 1430 * below && above < 1440 * below, true);
    }
}
