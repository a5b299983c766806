/** Promises 12 to 15: fade, day, lesson, taught. */
public final class LessonTest {
    private static final Check check = new Check();

    public static void main(String[] args) {
        atFirst();
        fade();
        fadeInBounds();
        day();
        dayInBounds();
        lowestTerms();
        millionths();
        largestMillionths();
        justTenToTheNinth();
        eachZoneItsOwn();
        taught();
        taughtRoundsTheLesson();
        partInBounds();
        check.end();
    }

    private static StartTimes oneZone() {
        StartTimes x = new StartTimes();
        x.zone(10, 100);
        return x;
    }

    private static void lesson(StartTimes x, long above, long below) {
        check.due("lesson above", x.lesson(0, 0), above);
        check.due("lesson below", x.lesson(0, 1), below);
    }

    private static void atFirst() {
        StartTimes x = oneZone();
        lesson(x, 0, 1);
        x.day(0, 10);
        lesson(x, 5, 1);
        x.day(0, 10);
        lesson(x, 15, 2);
        x.day(0, -10);
        lesson(x, -5, 4);
    }

    private static void fade() {
        StartTimes x = oneZone();
        x.fade(1, 3);
        x.day(0, 30);
        lesson(x, 10, 1);
        x.day(0, -7);
        lesson(x, 13, 3);
        x.fade(0, 100);
        x.day(0, 1440);
        lesson(x, 13, 3);
        x.fade(0, 1);
        x.day(0, -1440);
        lesson(x, 13, 3);
        x.fade(100, 100);
        x.day(0, 8);
        lesson(x, 8, 1);
        x.fade(1, 1);
        x.day(0, -9);
        lesson(x, -9, 1);
        x.fade(50, 100);
        x.day(0, 0);
        lesson(x, -9, 2);
    }

    private static void fadeInBounds() {
        StartTimes x = oneZone();
        int[][] wrong = {{2, 1}, {1, 0}, {0, 0}, {1, 101}, {-1, 2}, {101, 101}, {101, 100}, {0, -1}, {-1, -1},
            {Integer.MIN_VALUE, 1}, {1, Integer.MAX_VALUE}, {Integer.MAX_VALUE, Integer.MAX_VALUE}};
        for (int[] w : wrong) {
            check.refused("fade(" + w[0] + ", " + w[1] + ")", () -> x.fade(w[0], w[1]));
        }
        x.day(0, 1);
        lesson(x, 1, 2);
    }

    private static void day() {
        StartTimes x = oneZone();
        x.day(0, 1440);
        lesson(x, 720, 1);
        x.day(0, -1440);
        lesson(x, -360, 1);
        x.fade(1, 1);
        x.day(0, -1440);
        lesson(x, -1440, 1);
        x.day(0, 1440);
        lesson(x, 1440, 1);
        x.day(0, 0);
        lesson(x, 0, 1);
    }

    private static void dayInBounds() {
        StartTimes x = oneZone();
        int[][] wrong = {{0, 1441}, {0, -1441}, {1, 0}, {-1, 0}, {6, 0}, {0, Integer.MIN_VALUE},
            {Integer.MAX_VALUE, 0}};
        for (int[] w : wrong) {
            check.refused("day(" + w[0] + ", " + w[1] + ")", () -> x.day(w[0], w[1]));
        }
        lesson(x, 0, 1);
    }

    private static void lowestTerms() {
        StartTimes x = oneZone();
        x.fade(6, 15);
        x.day(0, 1);
        lesson(x, 2, 5);
        x.day(0, -1);
        lesson(x, -4, 25);
        x.fade(2, 4);
        x.day(0, 0);
        lesson(x, -2, 25);
    }

    private static void millionths() {
        StartTimes x = oneZone();
        x.fade(1, 100);
        x.day(0, 1);
        lesson(x, 1, 100);
        x.day(0, 1);
        lesson(x, 199, 10000);
        x.day(0, 1);
        lesson(x, 29701, 1000000);
        x.day(0, 1);
        lesson(x, 3940399, 100000000);
        // 490099501 / 10^10 has a below above 10^9: 49009.9501 millionths are left as 49009.
        x.day(0, 1);
        lesson(x, 49009, 1000000);

        StartTimes y = oneZone();
        y.fade(1, 100);
        for (int i = 0; i < 5; i++) {
            y.day(0, -1);
        }
        lesson(y, -49009, 1000000);

        // 1 / 97 of the lesson stays each day: what is less than a millionth goes to 0.
        StartTimes z = oneZone();
        z.fade(1, 1);
        z.day(0, 1);
        z.fade(96, 97);
        for (int i = 0; i < 4; i++) {
            z.day(0, 0);
        }
        lesson(z, 1, 97L * 97 * 97 * 97);
        z.day(0, 0);
        lesson(z, 0, 1);
    }

    /** Here above times a million is more than a long holds. */
    private static void largestMillionths() {
        int[] days = {1439, 1440, 1438, 1440};
        for (int sign = -1; sign <= 1; sign += 2) {
            StartTimes x = oneZone();
            x.fade(1, 1);
            x.day(0, sign * 1440);
            x.fade(1, 97);
            for (int minutes : days) {
                x.day(0, sign * minutes);
            }
            lesson(x, sign * 127479473376L, 88529281);
            x.day(0, sign * 1439);
            lesson(x, sign * 359989901L, 250000);
        }
    }

    private static void justTenToTheNinth() {
        // 1 / 10^9 stays, 1 / (2 * 10^9) does not.
        StartTimes x = oneZone();
        x.fade(1, 1);
        x.day(0, 1);
        x.fade(99, 100);
        for (int i = 0; i < 4; i++) {
            x.day(0, 0);
        }
        lesson(x, 1, 100000000);
        x.fade(9, 10);
        x.day(0, 0);
        lesson(x, 1, 1000000000);
        x.fade(0, 1);
        x.day(0, 7);
        lesson(x, 1, 1000000000);
        x.fade(1, 2);
        x.day(0, 0);
        lesson(x, 0, 1);
    }

    private static void eachZoneItsOwn() {
        StartTimes x = oneZone();
        x.zone(1, 1);
        x.day(1, 3);
        lesson(x, 0, 1);
        check.due("the other's lesson", x.lesson(1, 0), 3);
        check.due("the other's lesson", x.lesson(1, 1), 2);
        x.zone(1, 1);
        check.due("a new zone's lesson", x.lesson(2, 0), 0);
        check.due("a new zone's lesson", x.lesson(2, 1), 1);
    }

    private static void taught() {
        StartTimes x = oneZone();
        check.due("taught for nothing", x.taught(0), StartTimes.NONE);
        x.fade(1, 1);
        x.day(0, 10);
        check.due("taught for nothing", x.taught(0), StartTimes.NONE);
        x.want(0, 400, 2000);
        check.due("taught", x.taught(0), 367);
        check.due("start is as it was", x.start(0), 377);
        x.day(0, 377);
        check.due("taught", x.taught(0), 0);
        x.day(0, 378);
        check.due("not below 0", x.taught(0), 0);
        x.day(0, 1440);
        check.due("not below 0", x.taught(0), 0);
        x.day(0, -1062);
        check.due("taught", x.taught(0), 1439);
        x.day(0, -1063);
        check.due("1439 at most", x.taught(0), 1439);
        x.day(0, -1440);
        check.due("1439 at most", x.taught(0), 1439);
        x.day(0, -1061);
        check.due("taught", x.taught(0), 1438);
        check.refused("taught(1)", () -> x.taught(1));
        check.refused("taught(-1)", () -> x.taught(-1));
    }

    private static void taughtRoundsTheLesson() {
        StartTimes x = oneZone();
        x.want(0, 400, 2000);
        x.day(0, 7);
        lesson(x, 7, 2);
        check.due("3.5 is rounded to 3", x.taught(0), 374);
        x.fade(1, 1);
        x.day(0, -3);
        x.fade(1, 2);
        x.day(0, 0);
        lesson(x, -3, 2);
        check.due("-1.5 is rounded to -1", x.taught(0), 378);
    }

    private static void partInBounds() {
        StartTimes x = oneZone();
        int[][] wrong = {{0, -1}, {0, 2}, {1, 0}, {-1, 1}, {0, Integer.MAX_VALUE}, {Integer.MIN_VALUE, 0}};
        for (int[] w : wrong) {
            check.refused("lesson(" + w[0] + ", " + w[1] + ")", () -> x.lesson(w[0], w[1]));
        }
    }
}
