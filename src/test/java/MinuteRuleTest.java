/** The rule of a minute with its roundings, and the outside's rows: one method for each sentence. */
public final class MinuteRuleTest {
    private static final Check check = new Check();

    public static void main(String[] args) {
        leaksAreRoundedToZero();
        heatIsRoundedToZero();
        quotientsAreRoundedApart();
        noRoundingOnTheWay();
        outsideThen();
        zeroBeforeTheFirstRow();
        aRowForTheLastMinute();
        aDayDoesNotWrapAround();
        rowsRise();
        rowsAtMost();
        boundsOnlyWhenTold();
        check.end();
    }

    private static int afterAMinute(int leads, int outside, int warmth) {
        StartTimes x = new StartTimes();
        x.zone(1, leads);
        x.set(0, 0, warmth);
        x.outside(0, outside);
        return x.at(0, 1);
    }

    private static void leaksAreRoundedToZero() {
        check.sentence("(O - T) / LEADS .. rounded to 0");
        check.due("warming by less than 1", afterAMinute(10, 109, 100), 100);
        check.due("warming by 1", afterAMinute(10, 110, 100), 101);
        check.due("warming by less than 2", afterAMinute(10, 119, 100), 101);
        check.due("cooling by less than 1", afterAMinute(10, 91, 100), 100);
        check.due("cooling by 1", afterAMinute(10, 90, 100), 99);
        check.due("cooling by less than 2", afterAMinute(10, 81, 100), 99);
        check.due("warming below 0 by less than 1", afterAMinute(10, -91, -100), -100);
        check.due("cooling below 0 by less than 1", afterAMinute(10, -109, -100), -100);
        check.due("cooling below 0 by 1", afterAMinute(10, -110, -100), -101);
        check.due("through 0", afterAMinute(3, -5, 5), 2);
        check.due("all of it", afterAMinute(1, -10000, 10000), -10000);
        check.due("all of it", afterAMinute(1, 10000, -10000), 10000);
        check.due("the slowest and widest", afterAMinute(1000, 10000, -10000), -9980);
    }

    private static int heated(int holds, int power) {
        StartTimes x = new StartTimes();
        x.zone(holds, 1000);
        x.set(0, 1, power);
        x.want(0, 1, 10000);
        return x.at(0, 1);
    }

    private static void heatIsRoundedToZero() {
        check.sentence("H / HOLDS .. rounded to 0");
        check.due("no power", heated(7, 0), 0);
        check.due("less than 1", heated(7, 6), 0);
        check.due("1", heated(7, 7), 1);
        check.due("less than 2", heated(7, 13), 1);
        check.due("2", heated(7, 14), 2);
        check.due("the most", heated(1, 100000), 100000);
        check.due("the most of the slowest", heated(1000, 100000), 100);
        check.due("less than 1 of the slowest", heated(1000, 999), 0);
    }

    private static int both(int outside, int warmth, int power) {
        StartTimes x = new StartTimes();
        x.zone(10, 10);
        x.set(0, 0, warmth);
        x.set(0, 1, power);
        x.outside(0, outside);
        x.want(0, 1, 10000);
        return x.at(0, 1);
    }

    private static void quotientsAreRoundedApart() {
        check.sentence("both quotients rounded to 0");
        check.due("0.5 and 0.5", both(5, 0, 5), 0);
        check.due("0.9 and 0.9", both(9, 0, 9), 0);
        check.due("-0.9 and 1", both(0, 9, 10), 10);
        check.due("-0.1 and 1", both(0, 1, 10), 2);
        check.due("-1.5 and 1.5", both(0, 15, 15), 15);
        check.due("-1 and 0.9", both(0, 10, 9), 9);
        check.due("1.5 and 1.5", both(15, 0, 15), 2);
    }

    private static void noRoundingOnTheWay() {
        check.sentence("becomes T + (O - T) / LEADS + H / HOLDS, minute by minute");
        StartTimes x = new StartTimes();
        x.zone(3, 7);
        x.set(0, 0, 1000);
        x.set(0, 1, 100);
        x.outside(0, -100);
        x.want(0, 1439, 10000);
        int warmth = 1000;
        for (int minute = 0; minute < 1440; minute++) {
            if (minute % 4 == 0 || minute == 1439) {
                check.due("at " + minute, x.at(0, minute), warmth);
            }
            warmth = warmth + (-100 - warmth) / 7 + (minute < 1439 ? 33 : 0);
        }
        check.due("at 1440", x.at(0, 1440), warmth);
    }

    private static void outsideThen() {
        check.sentence("O being the outside's warmth then; from the minutes on that are told");
        StartTimes x = new StartTimes();
        x.zone(1, 1);
        x.outside(20, 200);
        x.outside(21, -300);
        x.outside(40, 400);
        check.due("at the row's beginning", x.at(0, 20), 0);
        check.due("after the row's minute", x.at(0, 21), 200);
        check.due("after the next row's minute", x.at(0, 22), -300);
        check.due("before another row", x.at(0, 40), -300);
        check.due("after it", x.at(0, 41), 400);
        check.due("to the day's end", x.at(0, 1440), 400);
    }

    private static void zeroBeforeTheFirstRow() {
        check.sentence("0 before");
        StartTimes x = new StartTimes();
        x.zone(1, 1);
        x.set(0, 0, 50);
        x.outside(1, 700);
        check.due("after minute 0", x.at(0, 1), 0);
        check.due("after minute 1", x.at(0, 2), 700);
        StartTimes y = new StartTimes();
        y.zone(1, 1);
        y.outside(0, 700);
        check.due("a row at minute 0", y.at(0, 1), 700);
        check.due("its beginning", y.at(0, 0), 0);
    }

    private static void aRowForTheLastMinute() {
        check.sentence("MINUTES are 0 .. 1439: the last row that may be");
        StartTimes x = new StartTimes();
        x.zone(1, 1);
        x.outside(1439, 800);
        check.due("before it", x.at(0, 1439), 0);
        check.due("behind it", x.at(0, 1440), 800);
        check.outOfState("a row more", () -> x.outside(1439, 0));
    }

    private static void aDayDoesNotWrapAround() {
        check.sentence("MINUTES are 0 .. 1439 of a day: the day's end is not its beginning");
        StartTimes x = new StartTimes();
        x.zone(1, 1);
        x.set(0, 0, 30);
        x.outside(1439, 800);
        check.due("at 0", x.at(0, 0), 30);
        check.due("at 1", x.at(0, 1), 0);
        check.due("at 0 again", x.at(0, 0), 30);
    }

    private static void rowsRise() {
        check.sentence("illegal state: one is at that minute or behind it");
        StartTimes x = new StartTimes();
        check.due("the first row", x.outside(10, 0), 1);
        check.outOfState("at that minute", () -> x.outside(10, 5));
        check.outOfState("one behind it", () -> x.outside(9, 5));
        check.outOfState("one behind it", () -> x.outside(0, 5));
        check.outOfState("at that minute, after refused ones", () -> x.outside(10, 5));
        check.due("the next minute", x.outside(11, 0), 2);
        check.outOfState("at an earlier one's minute", () -> x.outside(10, 5));
        check.due("a row at 1439", x.outside(1439, 0), 3);
        check.outOfState("none behind 1439", () -> x.outside(1438, 5));
    }

    private static void rowsAtMost() {
        check.sentence("illegal state: there are 24 rows");
        StartTimes x = new StartTimes();
        x.zone(1, 1);
        for (int row = 1; row <= 24; row++) {
            check.due("row " + row, x.outside(row * 10, row), row);
        }
        check.outOfState("a 25th row", () -> x.outside(241, 99));
        check.outOfState("a 25th row", () -> x.outside(1439, 99));
        check.due("the 24th row", x.at(0, 241), 24);
        check.due("the 24th row to the end", x.at(0, 1440), 24);
    }

    private static void boundsOnlyWhenTold() {
        check.sentence("WARMTHS -10000 .. 10000 when told");
        StartTimes x = new StartTimes();
        x.zone(1, 1000);
        x.set(0, 0, 10000);
        x.set(0, 1, 100000);
        x.want(0, 1, 10000);
        check.due("a zone may get warmer than can be told", x.at(0, 1), 109990);
        StartTimes y = new StartTimes();
        y.zone(1, 1);
        y.outside(0, -10000);
        y.set(0, 0, 10000);
        check.due("as cold as the outside", y.at(0, 1440), -10000);
    }
}
