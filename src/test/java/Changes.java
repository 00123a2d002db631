import java.util.ArrayDeque;
import java.util.ArrayList;
import java.util.Arrays;
import java.util.List;

/** All ways in which LABELS can hang, and the fewest changes of two from each to the right one, by going through all. */
final class Changes {
    private Changes() {
    }

    static List<int[]> ways(int n) {
        List<int[]> ways = new ArrayList<>();
        for (int number = 0; number < power(n); number++) {
            int[] way = new int[n];
            int hung = 0;
            for (int d = 0, rest = number; d < n; d++, rest /= n) {
                way[d] = rest % n;
                hung |= 1 << way[d];
            }
            if (hung == (1 << n) - 1) {
                ways.add(way);
            }
        }
        return ways;
    }

    private static int power(int n) {
        int power = 1;
        for (int i = 0; i < n; i++) {
            power *= n;
        }
        return power;
    }

    static int number(int[] way) {
        int number = 0;
        for (int d = way.length - 1; d >= 0; d--) {
            number = number * way.length + way[d];
        }
        return number;
    }

    /** By the number of a way: how many changes lead to it from the right one at least, -1 where LABELS are alike. */
    static int[] fewest(int n) {
        int[] fewest = new int[power(n)];
        Arrays.fill(fewest, -1);
        int[] right = new int[n];
        for (int d = 0; d < n; d++) {
            right[d] = d;
        }
        ArrayDeque<int[]> waiting = new ArrayDeque<>();
        fewest[number(right)] = 0;
        waiting.add(right);
        while (!waiting.isEmpty()) {
            int[] way = waiting.remove();
            for (int d = 0; d < n; d++) {
                for (int e = d + 1; e < n; e++) {
                    int[] next = changed(way, d, e);
                    if (fewest[number(next)] < 0) {
                        fewest[number(next)] = fewest[number(way)] + 1;
                        waiting.add(next);
                    }
                }
            }
        }
        return fewest;
    }

    /** 10 times the lesser and the other one, or -1 where no change sets one right that was not. */
    static int leastThatSetsOne(int[] way) {
        for (int two = 0; two < 10 * way.length; two++) {
            int d = two / 10;
            int e = two % 10;
            if (d < e && e < way.length) {
                int[] next = changed(way, d, e);
                if (next[d] == d || next[e] == e) {
                    return two;
                }
            }
        }
        return -1;
    }

    private static int[] changed(int[] way, int d, int e) {
        int[] next = way.clone();
        next[d] = way[e];
        next[e] = way[d];
        return next;
    }
}
