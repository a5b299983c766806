import java.util.Random;

/**
 * All promises at once: runs of 512 calls, as many as an object is promised for, by lot (from fixed
 * seeds), with numbers in and out of their bounds, each answer held against that of the plain model.
 * The last calls of a run ask for all that has been told and for the plan, so that a refused call
 * that changed something would be seen.
 */
public final class AgainstModelTest {
    private static final int RUNS = 60;
    private static final int CALLS = 512;
    /** So many calls askEverything makes. */
    private static final int QUESTIONS = 172;
    private static final String ARGUMENT = "IllegalArgumentException";
    private static final String STATE = "IllegalStateException";

    private static final Check check = new Check();

    private final Random lot;
    private final StartTimes x = new StartTimes();
    private final PlainModel model = new PlainModel();
    private final int run;
    private int made = 0;

    private AgainstModelTest(int run) {
        this.run = run;
        this.lot = new Random(run * 7919L);
    }

    public static void main(String[] args) {
        for (int run = 0; run < RUNS; run++) {
            AgainstModelTest t = new AgainstModelTest(run);
            for (int i = 0; i < CALLS - QUESTIONS; i++) {
                t.anyCall();
            }
            t.askEverything();
            check.due("calls of run " + run, t.made, CALLS);
        }
        check.end();
    }

    /** Mostly within the bounds, at times at them or just out of them. */
    private int number(int least, int most) {
        switch (lot.nextInt(24)) {
            case 0: return least;
            case 1: return most;
            case 2: return lot.nextInt(4) == 0 ? least - 1 : least;
            case 3: return lot.nextInt(4) == 0 ? most + 1 : most;
            case 4: return lot.nextInt(8) == 0 ? lot.nextInt() : least;
            default: return least + lot.nextInt(most - least + 1);
        }
    }

    private int zoneNumber() {
        int count = model.rooms.size();
        return lot.nextInt(30) == 0 ? number(0, 5) : lot.nextInt(Math.max(1, count));
    }

    /** Small numbers are likelier, so that powers, leads and the machine fit one another. */
    private int small(int least, int most) {
        return lot.nextInt(3) == 0 ? number(least, most) : number(least, Math.max(least + 1, most / 20));
    }

    private int warmth() {
        return lot.nextInt(4) == 0 ? number(-10000, 10000) : -1000 + lot.nextInt(3000);
    }

    private void hold(String call, StartTimesCall c, String due) {
        String got;
        made++;
        try {
            got = Long.toString(c.answer());
        } catch (RuntimeException e) {
            got = e.getClass().getSimpleName();
        }
        check.dueText("run " + run + ": " + call, got, due);
    }

    private interface StartTimesCall {
        long answer();
    }

    private void anyCall() {
        switch (lot.nextInt(20)) {
            case 0: zone(small(1, 1000), small(1, 1000)); break;
            case 1: set(zoneNumber(), number(0, 2)); break;
            case 2: set(zoneNumber(), 1); break;
            case 3: want(zoneNumber(), number(-1, 1439), warmth()); break;
            case 4: want(zoneNumber(), number(0, 1439), warmth()); break;
            case 5: outside(); break;
            case 6: machine(small(0, lot.nextInt(4) == 0 ? 1000000 : 5000)); break;
            case 7: start(zoneNumber()); break;
            case 8: late(zoneNumber()); break;
            case 9: at(zoneNumber(), number(0, 1440)); break;
            case 10: used(number(0, 1439)); break;
            case 11: cold(zoneNumber()); break;
            case 12: fade(number(0, 100), number(1, 100)); break;
            case 13: case 14: day(zoneNumber(), number(-1440, 1440)); break;
            case 15: lesson(zoneNumber(), number(0, 1)); break;
            case 16: taught(zoneNumber()); break;
            case 17: price(number(0, 23), number(0, 1000)); break;
            case 18: cheapest(zoneNumber(), number(1, 10), number(1, 30)); break;
            default: costs(zoneNumber(), number(1, 10), number(1, 30)); break;
        }
    }

    private void askEverything() {
        for (int zone = -1; zone <= 6; zone++) {
            start(zone);
            late(zone);
            cold(zone);
            taught(zone);
            lesson(zone, 0);
            lesson(zone, 1);
            cheapest(zone, 10, 30);
            at(zone, 1440);
        }
        for (int zone = 0; zone < 6; zone++) {
            for (int i = 0; i < 6; i++) {
                at(zone, lot.nextInt(1441));
            }
        }
        for (int i = 0; i < 29; i++) {
            used(lot.nextInt(1440));
        }
        for (int hour = 0; hour < 24; hour++) {
            price(hour, 0);
        }
        machine(0);
        for (int zone = 0; zone < 6; zone++) {
            set(zone, 0);
            set(zone, 1);
            set(zone, 2);
        }
    }

    private void zone(int holds, int leads) {
        String due = ARGUMENT;
        if (PlainModel.in(holds, 1, 1000) && PlainModel.in(leads, 1, 1000)) {
            due = STATE;
            if (model.rooms.size() < 6) {
                due = Integer.toString(model.rooms.size());
                PlainModel.Room r = new PlainModel.Room();
                r.holds = holds;
                r.leads = leads;
                model.rooms.add(r);
                model.told();
            }
        }
        hold("zone(" + holds + ", " + leads + ")", () -> x.zone(holds, leads), due);
    }

    private void set(int zone, int what) {
        int v = what == 0 ? warmth() : what == 1 ? small(0, lot.nextBoolean() ? 100000 : 3000) : number(0, 9);
        String due = ARGUMENT;
        if (model.isRoom(zone)) {
            PlainModel.Room r = model.rooms.get(zone);
            if (what == 0 && PlainModel.in(v, -10000, 10000)) {
                due = Integer.toString(r.warmth);
                r.warmth = v;
            } else if (what == 1 && PlainModel.in(v, 0, 100000)) {
                due = Integer.toString(r.power);
                r.power = v;
            } else if (what == 2 && PlainModel.in(v, 0, 9)) {
                due = Integer.toString(r.rank);
                r.rank = v;
            }
            model.told();
        }
        hold("set(" + zone + ", " + what + ", " + v + ")", () -> x.set(zone, what, v), due);
    }

    private void want(int zone, int minute, int warmth) {
        String due = ARGUMENT;
        if (model.isRoom(zone) && PlainModel.in(minute, -1, 1439) && PlainModel.in(warmth, -10000, 10000)) {
            due = "0";
            model.rooms.get(zone).minute = minute;
            model.rooms.get(zone).wanted = warmth;
            model.told();
        }
        hold("want(" + zone + ", " + minute + ", " + warmth + ")", () -> {
            x.want(zone, minute, warmth);
            return 0;
        }, due);
    }

    private void outside() {
        int rows = model.outside.size();
        int last = rows == 0 ? -1 : model.outside.get(rows - 1)[0];
        int minute = lot.nextInt(5) == 0 ? number(0, 1439) : last + lot.nextInt(120);
        int warmth = warmth();
        String due = ARGUMENT;
        if (PlainModel.in(minute, 0, 1439) && PlainModel.in(warmth, -10000, 10000)) {
            due = STATE;
            if (rows < 24 && last < minute) {
                model.outside.add(new int[] {minute, warmth});
                model.told();
                due = Integer.toString(rows + 1);
            }
        }
        hold("outside(" + minute + ", " + warmth + ")", () -> x.outside(minute, warmth), due);
    }

    private void machine(int power) {
        String due = ARGUMENT;
        if (PlainModel.in(power, 0, 1000000)) {
            due = Integer.toString(model.machine);
            model.machine = power;
            model.told();
        }
        hold("machine(" + power + ")", () -> x.machine(power), due);
    }

    private PlainModel.Room roomByPlan(int zone) {
        model.plan();
        return model.isRoom(zone) ? model.rooms.get(zone) : null;
    }

    private void start(int zone) {
        PlainModel.Room r = roomByPlan(zone);
        hold("start(" + zone + ")", () -> x.start(zone), r == null ? ARGUMENT : Integer.toString(r.start));
    }

    private void late(int zone) {
        PlainModel.Room r = roomByPlan(zone);
        hold("late(" + zone + ")", () -> x.late(zone) ? 1 : 0, r == null ? ARGUMENT : r.late ? "1" : "0");
    }

    private void at(int zone, int minute) {
        PlainModel.Room r = roomByPlan(zone);
        boolean ok = r != null && PlainModel.in(minute, 0, 1440);
        hold("at(" + zone + ", " + minute + ")", () -> x.at(zone, minute),
            ok ? Integer.toString(r.course[minute]) : ARGUMENT);
    }

    private void used(int minute) {
        boolean ok = PlainModel.in(minute, 0, 1439);
        hold("used(" + minute + ")", () -> x.used(minute), ok ? Integer.toString(model.used(minute)) : ARGUMENT);
    }

    private void cold(int zone) {
        PlainModel.Room r = roomByPlan(zone);
        hold("cold(" + zone + ")", () -> x.cold(zone), r == null ? ARGUMENT : Integer.toString(model.cold(r)));
    }

    private void fade(int above, int below) {
        String due = ARGUMENT;
        if (PlainModel.in(below, 1, 100) && PlainModel.in(above, 0, below)) {
            due = "0";
            model.fadeAbove = above;
            model.fadeBelow = below;
        }
        hold("fade(" + above + ", " + below + ")", () -> {
            x.fade(above, below);
            return 0;
        }, due);
    }

    private void day(int zone, int minutes) {
        String due = ARGUMENT;
        if (model.isRoom(zone) && PlainModel.in(minutes, -1440, 1440)) {
            due = "0";
            model.day(model.rooms.get(zone), minutes);
        }
        hold("day(" + zone + ", " + minutes + ")", () -> {
            x.day(zone, minutes);
            return 0;
        }, due);
    }

    private void lesson(int zone, int part) {
        String due = ARGUMENT;
        if (model.isRoom(zone) && PlainModel.in(part, 0, 1)) {
            PlainModel.Room r = model.rooms.get(zone);
            due = (part == 0 ? r.above : r.below).toString();
        }
        hold("lesson(" + zone + ", " + part + ")", () -> x.lesson(zone, part), due);
    }

    private void taught(int zone) {
        PlainModel.Room r = roomByPlan(zone);
        hold("taught(" + zone + ")", () -> x.taught(zone), r == null ? ARGUMENT : Integer.toString(model.taught(r)));
    }

    private void price(int hour, int p) {
        String due = ARGUMENT;
        if (PlainModel.in(hour, 0, 23) && PlainModel.in(p, 0, 1000)) {
            due = Integer.toString(model.prices[hour]);
            model.prices[hour] = p;
        }
        hold("price(" + hour + ", " + p + ")", () -> x.price(hour, p), due);
    }

    private boolean quartersOk(int zone, int n, int m) {
        return model.isRoom(zone) && PlainModel.in(n, 1, 10) && PlainModel.in(m, 1, 30);
    }

    private void cheapest(int zone, int n, int m) {
        String due = ARGUMENT;
        if (quartersOk(zone, n, m)) {
            PlainModel.Room r = model.rooms.get(zone);
            due = r.minute == -1 ? STATE : Integer.toString(model.cheapest(r, n, m));
        }
        hold("cheapest(" + zone + ", " + n + ", " + m + ")", () -> x.cheapest(zone, n, m), due);
    }

    private void costs(int zone, int n, int m) {
        int set = number(0, PlainModel.in(n, 1, 10) ? (1 << n) - 1 : 1);
        String due = ARGUMENT;
        if (quartersOk(zone, n, m) && PlainModel.in(set, 0, (1 << n) - 1)) {
            PlainModel.Room r = model.rooms.get(zone);
            due = r.minute == -1 ? STATE : Long.toString(model.costs(r, n, m, set));
        }
        hold("costs(" + zone + ", " + n + ", " + m + ", " + set + ")", () -> x.costs(zone, n, m, set), due);
    }
}
