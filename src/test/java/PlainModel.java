import java.math.BigInteger;
import java.util.ArrayList;
import java.util.Arrays;
import java.util.Comparator;
import java.util.List;

/**
 * The document read in the plainest way, without any saving of work: every start is tried, every
 * set is followed from minute 0 on, lessons are fractions without a bound. It takes only calls
 * that are within the bounds; a call that is not is told from these by who asks.
 */
final class PlainModel {
    static final class Room {
        int holds;
        int leads;
        int warmth = 0;
        int power = 1000;
        int rank = 0;
        int minute = -1;
        int wanted = 0;
        BigInteger above = BigInteger.ZERO;
        BigInteger below = BigInteger.ONE;
        int start;
        boolean late;
        int[] course;
    }

    final List<Room> rooms = new ArrayList<>();
    final List<int[]> outside = new ArrayList<>();
    final int[] prices = new int[24];
    int machine = 100000;
    int fadeAbove = 1;
    int fadeBelow = 2;
    private int[] left;
    private boolean fresh = false;

    static boolean in(int v, int least, int most) {
        return v >= least && v <= most;
    }

    boolean isRoom(int zone) {
        return in(zone, 0, rooms.size() - 1);
    }

    void told() {
        fresh = false;
    }

    private int outsideAt(int minute) {
        int warmth = 0;
        for (int[] row : outside) {
            if (row[0] <= minute) {
                warmth = row[1];
            }
        }
        return warmth;
    }

    private int[] outsideOfTheDay() {
        int[] day = new int[1440];
        for (int i = 0; i < 1440; i++) {
            day[i] = outsideAt(i);
        }
        return day;
    }

    /** The warmths of a room at the beginnings of minutes that gets heat[i] in minute i. */
    private static int[] course(Room r, int[] heat, int[] air, int end) {
        int[] t = new int[end + 1];
        t[0] = r.warmth;
        for (int i = 0; i < end; i++) {
            t[i + 1] = t[i] + (air[i] - t[i]) / r.leads + heat[i] / r.holds;
        }
        return t;
    }

    private int[] heatFrom(Room r, int start) {
        int[] heat = new int[1440];
        for (int i = start; i < r.minute; i++) {
            heat[i] = r.power < left[i] ? r.power : left[i];
        }
        return heat;
    }

    private void planRoom(Room r, int[] air) {
        r.start = -1;
        r.late = false;
        int[] heat = new int[1440];
        if (r.minute != -1) {
            int start = r.minute;
            while (start >= 0 && course(r, heatFrom(r, start), air, r.minute)[r.minute] < r.wanted) {
                start--;
            }
            r.late = start < 0;
            r.start = r.late ? 0 : start;
            heat = heatFrom(r, r.start);
        }
        r.course = course(r, heat, air, 1440);
        for (int i = 0; i < 1440; i++) {
            left[i] -= heat[i];
        }
    }

    void plan() {
        if (fresh) {
            return;
        }
        left = new int[1440];
        Arrays.fill(left, machine);
        int[] air = outsideOfTheDay();
        List<Room> order = new ArrayList<>(rooms);
        order.sort(Comparator.comparingInt(r -> r.rank));
        for (Room r : order) {
            planRoom(r, air);
        }
        fresh = true;
    }

    int used(int minute) {
        plan();
        return machine - left[minute];
    }

    int cold(Room r) {
        plan();
        int minutes = 0;
        for (int i = 0; i < 1440; i++) {
            if (r.minute != -1 && i >= r.minute && r.course[i] < r.wanted) {
                minutes++;
            }
        }
        return minutes;
    }

    void day(Room r, int minutes) {
        BigInteger a = BigInteger.valueOf(fadeAbove);
        BigInteger b = BigInteger.valueOf(fadeBelow);
        // above/below + (minutes - above/below) * a/b
        BigInteger gap = BigInteger.valueOf(minutes).multiply(r.below).subtract(r.above);
        lowest(r, r.above.multiply(b).add(gap.multiply(a)), r.below.multiply(b));
        if (r.below.compareTo(BigInteger.valueOf(1000000000)) > 0) {
            BigInteger million = BigInteger.valueOf(1000000);
            lowest(r, r.above.multiply(million).divide(r.below), million);
        }
    }

    private static void lowest(Room r, BigInteger above, BigInteger below) {
        BigInteger divisor = above.gcd(below);
        r.above = above.divide(divisor);
        r.below = below.divide(divisor);
    }

    int taught(Room r) {
        plan();
        if (r.minute == -1) {
            return -1;
        }
        int minute = r.start - r.above.divide(r.below).intValue();
        return minute < 0 ? 0 : minute > 1439 ? 1439 : minute;
    }

    long costs(Room r, int n, int m, int set) {
        int[] heat = new int[1440];
        long cost = 0;
        for (int k = 0; k < n; k++) {
            for (int i = 0; i < m; i++) {
                int minute = r.minute - n * m + k * m + i;
                if (minute >= 0 && (set & 1 << k) != 0) {
                    heat[minute] = r.power;
                    cost += (long) r.power * prices[minute / 60];
                }
            }
        }
        return course(r, heat, outsideOfTheDay(), r.minute)[r.minute] >= r.wanted ? cost : -1;
    }

    int cheapest(Room r, int n, int m) {
        int best = -1;
        long least = Long.MAX_VALUE;
        for (int set = 0; set < 1 << n; set++) {
            long cost = costs(r, n, m, set);
            if (cost != -1 && cost < least) {
                least = cost;
                best = set;
            }
        }
        return best;
    }
}
