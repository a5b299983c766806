/** Promises 16 to 18: price, cheapest, costs. */
public final class PriceTest {
    private static final Check check = new Check();

    public static void main(String[] args) {
        price();
        priceInBounds();
        cheapest();
        leastOfSeveral();
        earliestFirst();
        whateverTheMachineGives();
        minutesBeforeZero();
        costs();
        largestCost();
        noQuartersWanted();
        inBounds();
        check.end();
    }

    private static void price() {
        StartTimes x = new StartTimes();
        for (int hour = 0; hour < 24; hour++) {
            check.due("price at first", x.price(hour, hour * 40), 0);
        }
        for (int hour = 0; hour < 24; hour++) {
            check.due("price told", x.price(hour, 1000), hour * 40);
            check.due("price told", x.price(hour, 0), 1000);
        }
    }

    private static void priceInBounds() {
        StartTimes x = new StartTimes();
        int[][] wrong = {{-1, 0}, {24, 0}, {0, -1}, {0, 1001}, {Integer.MIN_VALUE, 0}, {0, Integer.MAX_VALUE}};
        for (int[] w : wrong) {
            check.refused("price(" + w[0] + ", " + w[1] + ")", () -> x.price(w[0], w[1]));
        }
        check.due("price after refused calls", x.price(0, 0), 0);
    }

    /** A zone that hardly cools and gets 10 warmer in each minute that it heats. */
    private static StartTimes steady(int minute, int warmth) {
        StartTimes x = new StartTimes();
        x.zone(1, 1000);
        x.set(0, 1, 10);
        x.want(0, minute, warmth);
        return x;
    }

    private static void cheapest() {
        StartTimes x = steady(180, 600);
        x.price(0, 1);
        x.price(1, 3);
        x.price(2, 2);
        // six quarters of half an hour: bits 0 and 1 in hour 0, 2 and 3 in hour 1, 4 and 5 in hour 2
        check.due("the cheapest hour", x.cheapest(0, 6, 30), 3);
        check.due("its cost", x.costs(0, 6, 30, 3), 600);
        x.want(0, 180, 601);
        check.due("and the next one", x.cheapest(0, 6, 30), 3 + 16);
        check.due("its cost", x.costs(0, 6, 30, 19), 600 + 600);
        x.price(2, 1000);
        check.due("and another one", x.cheapest(0, 6, 30), 3 + 4);
    }

    private static void leastOfSeveral() {
        StartTimes x = steady(180, 300);
        check.due("of those that cost nothing the least", x.cheapest(0, 6, 30), 1);
        x.want(0, 180, 0);
        check.due("no quarter", x.cheapest(0, 6, 30), 0);
        check.due("no quarter costs nothing", x.costs(0, 6, 30, 0), 0);
        x.want(0, 180, 900);
        check.due("three", x.cheapest(0, 6, 30), 7);
        for (int hour = 0; hour < 3; hour++) {
            x.price(hour, 5);
        }
        check.due("three at one price", x.cheapest(0, 6, 30), 7);
        x.want(0, 180, 1801);
        check.due("none does", x.cheapest(0, 6, 30), StartTimes.NONE);
    }

    private static void earliestFirst() {
        StartTimes x = new StartTimes();
        x.zone(1, 1);
        x.set(0, 1, 50);
        x.want(0, 600, 50);
        check.due("only the last minute matters", x.cheapest(0, 10, 30), 512);
        check.due("the last quarter does", x.costs(0, 10, 30, 512), 0);
        check.due("all others do not", x.costs(0, 10, 30, 511), StartTimes.NONE);
        check.due("the last of one", x.cheapest(0, 1, 1), 1);
        x.outside(599, 50);
        check.due("the outside alone", x.cheapest(0, 10, 30), 0);
    }

    private static void whateverTheMachineGives() {
        StartTimes x = steady(180, 300);
        x.machine(0);
        check.due("late by the plan", x.late(0), true);
        check.due("a set all the same", x.cheapest(0, 6, 30), 1);
        check.due("a cost all the same", x.costs(0, 6, 30, 1), 0);
    }

    private static void minutesBeforeZero() {
        StartTimes x = steady(45, 150);
        x.price(0, 1);
        // three quarters of 30 minutes: -45 .. -16, -15 .. 14, 15 .. 44
        check.due("a quarter that is in part before 0", x.cheapest(0, 3, 30), 2);
        check.due("its minutes from 0 on cost", x.costs(0, 3, 30, 2), 150);
        check.due("a quarter before 0 costs nothing", x.costs(0, 3, 30, 3), 150);
        check.due("a quarter before 0 heats nothing", x.costs(0, 3, 30, 1), StartTimes.NONE);
        check.due("all of them", x.costs(0, 3, 30, 7), 450);
        x.want(0, 0, 0);
        check.due("no minute at all", x.cheapest(0, 10, 30), 0);
        check.due("no minute at all", x.costs(0, 10, 30, 1023), 0);
        x.want(0, 0, 1);
        check.due("no minute at all", x.cheapest(0, 10, 30), StartTimes.NONE);
        check.due("no minute at all", x.costs(0, 10, 30, 1023), StartTimes.NONE);
    }

    private static void costs() {
        StartTimes x = steady(125, 0);
        x.price(0, 7);
        x.price(1, 11);
        x.price(2, 13);
        // one quarter of ten minutes from 115 to 124, five in hour 1 and five in hour 2
        check.due("a quarter in two hours", x.costs(0, 1, 10, 1), 10 * (5 * 11 + 5 * 13));
        check.due("one minute", x.costs(0, 1, 1, 1), 10 * 13);
        check.due("no power in the others", x.costs(0, 10, 1, 1 + 512), 10 * (11 + 13));
        x.set(0, 1, 0);
        check.due("no power costs nothing", x.costs(0, 1, 10, 1), 0);
        x.want(0, 125, 1);
        check.due("none that does", x.costs(0, 1, 10, 1), StartTimes.NONE);
    }

    private static void largestCost() {
        StartTimes x = steady(1439, 10000);
        x.set(0, 1, 100000);
        for (int hour = 0; hour < 24; hour++) {
            x.price(hour, 1000);
        }
        check.due("more than an int", x.costs(0, 10, 30, 1023), 300L * 100000 * 1000);
        check.due("the least of those that cost alike", x.cheapest(0, 10, 30), 1);
    }

    private static void noQuartersWanted() {
        StartTimes x = new StartTimes();
        x.zone(1, 1);
        check.outOfState("cheapest", () -> x.cheapest(0, 1, 1));
        check.outOfState("costs", () -> x.costs(0, 1, 1, 0));
        check.outOfState("costs", () -> x.costs(0, 10, 30, 1023));
        check.refused("cheapest of 0", () -> x.cheapest(0, 0, 1));
        check.refused("costs of a bit for no quarter", () -> x.costs(0, 1, 1, 2));
        check.refused("costs of another zone", () -> x.costs(1, 1, 1, 0));
    }

    private static void inBounds() {
        StartTimes x = steady(600, 100);
        int[][] wrong = {{-1, 1, 1}, {1, 1, 1}, {6, 1, 1}, {0, 0, 1}, {0, 11, 1}, {0, 1, 0}, {0, 1, 31},
            {0, -1, 1}, {0, 1, -1}, {0, 32, 1}, {0, Integer.MAX_VALUE, 1}, {0, 1, Integer.MIN_VALUE}};
        for (int[] w : wrong) {
            check.refused("cheapest(" + w[0] + ", " + w[1] + ", " + w[2] + ")",
                () -> x.cheapest(w[0], w[1], w[2]));
            check.refused("costs(" + w[0] + ", " + w[1] + ", " + w[2] + ", 0)",
                () -> x.costs(w[0], w[1], w[2], 0));
        }
        for (int n = 1; n <= 10; n++) {
            int quarters = n;
            check.due("all quarters", x.costs(0, n, 30, (1 << n) - 1), 0);
            check.refused("a bit too many", () -> x.costs(0, quarters, 30, 1 << quarters));
            check.refused("a set below 0", () -> x.costs(0, quarters, 30, -1));
            check.refused("the least set", () -> x.costs(0, quarters, 30, Integer.MIN_VALUE));
            check.refused("the greatest set", () -> x.costs(0, quarters, 30, Integer.MAX_VALUE));
        }
    }
}
