import java.util.ArrayList;
import java.util.List;

/**
 * "Illegal state: as told. Of several exceptions the one named first is thrown; a call that throws
 * changes nothing."
 *
 * Twins are told the same; one of them also gets a call that must be refused, before or behind a
 * first look at its plan. Then all that can be asked is asked of both: one answer that differs
 * tells that the refused call changed something.
 */
public final class RefusalTest {
    private static final Check check = new Check();
    private static final String ARGUMENT = "IllegalArgumentException";
    private static final String STATE = "IllegalStateException";
    private static final int LEAST = Integer.MIN_VALUE;
    private static final int MOST = Integer.MAX_VALUE;

    private interface Refused {
        void call(StartTimes x);
    }

    public static void main(String[] args) {
        refusedZones();
        refusedSets();
        refusedWants();
        refusedOutside();
        refusedMachines();
        refusedQuestions();
        refusedTeaching();
        refusedPrices();
        refusedQuarters();
        check.end();
    }

    /** Three zones that share a machine, the last of which wants nothing, and two rows outside. */
    private static StartTimes some() {
        StartTimes x = new StartTimes();
        for (int i = 0; i < 3; i++) {
            x.zone(5 + i, 80 + i);
            x.set(i, 0, 300 - 100 * i);
            x.set(i, 1, 900 + i);
            x.set(i, 2, 4 - i);
            x.day(i, 37 * i - 20);
        }
        x.want(0, 500, 1900);
        x.want(1, 520, 1800);
        x.machine(1200);
        x.outside(100, -200);
        x.outside(700, 900);
        x.fade(2, 7);
        for (int hour = 0; hour < 24; hour++) {
            x.price(hour, hour * 13 % 7);
        }
        return x;
    }

    /** As many zones and rows as there may be. */
    private static StartTimes full() {
        StartTimes x = some();
        for (int i = 3; i < 6; i++) {
            x.zone(9, 70);
            x.want(i, 400 + i, 800);
        }
        for (int i = 2; i < 24; i++) {
            x.outside(701 + i, 10 * i);
        }
        return x;
    }

    private static void ask(List<String> answers, String what, Check.Call c, long[] answer) {
        String thrown = Check.thrownBy(c);
        answers.add(what + " " + (thrown.equals("nothing thrown") ? Long.toString(answer[0]) : thrown));
    }

    /** First what changes nothing, then what tells a number by putting another in its place. */
    private static List<String> allAnswers(StartTimes x) {
        List<String> answers = new ArrayList<>();
        long[] a = new long[1];
        for (int zone = 0; zone < 6; zone++) {
            int z = zone;
            ask(answers, "start " + z, () -> a[0] = x.start(z), a);
            ask(answers, "late " + z, () -> a[0] = x.late(z) ? 1 : 0, a);
            ask(answers, "cold " + z, () -> a[0] = x.cold(z), a);
            ask(answers, "taught " + z, () -> a[0] = x.taught(z), a);
            ask(answers, "above " + z, () -> a[0] = x.lesson(z, 0), a);
            ask(answers, "below " + z, () -> a[0] = x.lesson(z, 1), a);
            ask(answers, "cheapest " + z, () -> a[0] = x.cheapest(z, 5, 30), a);
            ask(answers, "costs " + z, () -> a[0] = x.costs(z, 5, 30, 31), a);
            ask(answers, "in the morning " + z, () -> a[0] = x.at(z, 90), a);
            ask(answers, "when wanted " + z, () -> a[0] = x.at(z, 500), a);
            ask(answers, "at the end " + z, () -> a[0] = x.at(z, 1440), a);
        }
        for (int minute = 350; minute < 530; minute += 10) {
            int i = minute;
            ask(answers, "used " + i, () -> a[0] = x.used(i), a);
        }
        askByTelling(answers, x, a);
        return answers;
    }

    private static void askByTelling(List<String> answers, StartTimes x, long[] a) {
        for (int hour = 0; hour < 24; hour++) {
            int h = hour;
            ask(answers, "price " + h, () -> a[0] = x.price(h, 0), a);
        }
        for (int zone = 0; zone < 6; zone++) {
            int z = zone;
            ask(answers, "day " + z, () -> x.day(z, 100), a);
            ask(answers, "above after a day " + z, () -> a[0] = x.lesson(z, 0), a);
            ask(answers, "below after a day " + z, () -> a[0] = x.lesson(z, 1), a);
            for (int what = 0; what < 3; what++) {
                int w = what;
                ask(answers, "set " + z + " " + w, () -> a[0] = x.set(z, w, 1), a);
            }
        }
        ask(answers, "machine", () -> a[0] = x.machine(0), a);
        ask(answers, "outside at the last row", () -> a[0] = x.outside(700, 0), a);
        ask(answers, "outside at once behind the last row", () -> a[0] = x.outside(701, 0), a);
        ask(answers, "outside at the end", () -> a[0] = x.outside(1439, 0), a);
        ask(answers, "zone", () -> a[0] = x.zone(1, 1), a);
    }

    private static void changesNothing(String call, String due, boolean whenFull, Refused refused) {
        for (int looks = 0; looks < 2; looks++) {
            StartTimes x = whenFull ? full() : some();
            StartTimes twin = whenFull ? full() : some();
            if (looks == 1) {
                x.start(0);
                twin.start(0);
            }
            check.sentence("the one named first is thrown");
            check.dueText(call, Check.thrownBy(() -> refused.call(x)), due);
            check.sentence("a call that throws changes nothing");
            check.dueText("what is answered behind " + call, allAnswers(x).toString(), allAnswers(twin).toString());
        }
    }

    private static void argument(String call, Refused refused) {
        changesNothing(call, ARGUMENT, false, refused);
        changesNothing(call + " when all is full", ARGUMENT, true, refused);
    }

    private static void refusedZones() {
        argument("zone(0, 1)", x -> x.zone(0, 1));
        argument("zone(1, 1001)", x -> x.zone(1, 1001));
        changesNothing("a seventh zone", STATE, true, x -> x.zone(1, 1));
        changesNothing("a seventh zone out of bounds", ARGUMENT, true, x -> x.zone(1001, 1));
    }

    private static void refusedSets() {
        argument("set of no zone", x -> x.set(6, 0, 5));
        argument("set of nothing", x -> x.set(0, 3, 5));
        argument("set(0, 0, 10001)", x -> x.set(0, 0, 10001));
        argument("set(0, 0, -10001)", x -> x.set(0, 0, -10001));
        argument("set(0, 1, 100001)", x -> x.set(0, 1, 100001));
        argument("set(0, 1, -1)", x -> x.set(0, 1, -1));
        argument("set(0, 2, 10)", x -> x.set(0, 2, 10));
        argument("set(0, 2, -1)", x -> x.set(0, 2, -1));
        changesNothing("set of the next zone", ARGUMENT, false, x -> x.set(3, 0, 5));
    }

    private static void refusedWants() {
        argument("want of no zone", x -> x.want(-1, 10, 10));
        argument("want at 1440", x -> x.want(0, 1440, 10));
        argument("want at -2", x -> x.want(0, -2, 10));
        argument("want of too much", x -> x.want(0, 10, 10001));
        argument("want of too little", x -> x.want(0, 10, -10001));
        argument("want of nothing and too much", x -> x.want(0, StartTimes.NONE, 10001));
        argument("want of nothing and too little", x -> x.want(0, StartTimes.NONE, -10001));
        argument("want of one that wants nothing", x -> x.want(2, 10, 10001));
    }

    private static void refusedOutside() {
        argument("outside at -1", x -> x.outside(-1, 10));
        argument("outside at 1440", x -> x.outside(1440, 10));
        argument("outside too warm", x -> x.outside(1000, 10001));
        argument("outside too cold", x -> x.outside(1000, -10001));
        argument("outside at a row and too warm", x -> x.outside(700, 10001));
        argument("outside before a row and too cold", x -> x.outside(0, -10001));
        changesNothing("outside at the last row", STATE, false, x -> x.outside(700, 10));
        changesNothing("outside at an earlier row", STATE, false, x -> x.outside(100, 10));
        changesNothing("outside before the last row", STATE, false, x -> x.outside(699, 10));
        changesNothing("outside between rows", STATE, false, x -> x.outside(101, 10));
        changesNothing("outside before all rows", STATE, false, x -> x.outside(0, 10));
        changesNothing("a 25th row behind all others", STATE, true, x -> x.outside(1439, 10));
        changesNothing("a 25th row at the last one", STATE, true, x -> x.outside(724, 10));
        changesNothing("a 25th row before others", STATE, true, x -> x.outside(0, 10));
    }

    private static void refusedMachines() {
        argument("machine(-1)", x -> x.machine(-1));
        argument("machine(1000001)", x -> x.machine(1000001));
        argument("machine(the least)", x -> x.machine(LEAST));
    }

    private static void refusedQuestions() {
        argument("start of no zone", x -> x.start(6));
        argument("late of no zone", x -> x.late(-1));
        argument("at of no zone", x -> x.at(6, 0));
        argument("at(0, 1441)", x -> x.at(0, 1441));
        argument("at(0, -1)", x -> x.at(0, -1));
        argument("used(1440)", x -> x.used(1440));
        argument("used(-1)", x -> x.used(-1));
        argument("cold of no zone", x -> x.cold(MOST));
        argument("taught of no zone", x -> x.taught(LEAST));
        argument("lesson of no zone", x -> x.lesson(6, 0));
        argument("lesson(0, 2)", x -> x.lesson(0, 2));
    }

    private static void refusedTeaching() {
        argument("fade(-1, 2)", x -> x.fade(-1, 2));
        argument("fade(3, 2)", x -> x.fade(3, 2));
        argument("fade(0, 0)", x -> x.fade(0, 0));
        argument("fade(1, 101)", x -> x.fade(1, 101));
        argument("day of no zone", x -> x.day(6, 1));
        argument("day(0, 1441)", x -> x.day(0, 1441));
        argument("day(0, -1441)", x -> x.day(0, -1441));
    }

    private static void refusedPrices() {
        argument("price(24, 1)", x -> x.price(24, 1));
        argument("price(-1, 1)", x -> x.price(-1, 1));
        argument("price(0, 1001)", x -> x.price(0, 1001));
        argument("price(0, -1)", x -> x.price(0, -1));
    }

    private static void refusedQuarters() {
        for (boolean whenFull : new boolean[] {false, true}) {
            changesNothing("cheapest of one that wants nothing", STATE, whenFull, x -> x.cheapest(2, 1, 1));
            changesNothing("costs of one that wants nothing", STATE, whenFull, x -> x.costs(2, 1, 1, 1));
        }
        // Zone 0 wants something, zone 2 nothing: the illegal argument comes first all the same.
        for (int zone = 0; zone <= 2; zone += 2) {
            int z = zone;
            argument("cheapest of 0", x -> x.cheapest(z, 0, 1));
            argument("cheapest of 11", x -> x.cheapest(z, 11, 1));
            argument("cheapest of 0 minutes", x -> x.cheapest(z, 1, 0));
            argument("cheapest of 31 minutes", x -> x.cheapest(z, 1, 31));
            argument("costs of 0", x -> x.costs(z, 0, 1, 0));
            argument("costs of 11", x -> x.costs(z, 11, 1, 0));
            argument("costs of 0 minutes", x -> x.costs(z, 1, 0, 0));
            argument("costs of 31 minutes", x -> x.costs(z, 1, 31, 0));
            argument("costs of a bit for no quarter", x -> x.costs(z, 3, 10, 8));
            argument("costs of a set below 0", x -> x.costs(z, 3, 10, -1));
        }
        argument("cheapest of no zone", x -> x.cheapest(6, 1, 1));
        argument("costs of no zone", x -> x.costs(-1, 1, 1, 0));
    }
}
