import java.util.ArrayList;
import java.util.List;

/**
 * All layouts that fit some bounds on ranges, told slowly: up to 12 places each layout is looked at by itself, beyond
 * them the bounds are closed by all triples of points.
 */
final class Layouts {
    private static final int MOST_LISTED = 12;

    private final int places;
    private final List<Long> listed = new ArrayList<>();
    private final int[][] excess;

    /** Each bound is {first, last, fewest, most}. */
    Layouts(int places, List<int[]> bounds) {
        this(places, bounds, places > MOST_LISTED);
    }

    Layouts(int places, List<int[]> bounds, boolean closed) {
        this.places = places;
        if (closed) {
            excess = close(places, bounds);
        } else {
            excess = null;
            for (long layout = 0; layout < 1L << places; layout++) {
                if (fits(layout, bounds)) {
                    listed.add(layout);
                }
            }
        }
    }

    private static boolean fits(long layout, List<int[]> bounds) {
        for (int[] bound : bounds) {
            int keys = keysIn(layout, bound[0], bound[1]);
            if (keys < bound[2] || keys > bound[3]) {
                return false;
            }
        }
        return true;
    }

    private static int keysIn(long layout, int a, int b) {
        int keys = 0;
        for (int i = a; i <= b; i++) {
            if ((layout >> i & 1) == 1) {
                keys++;
            }
        }
        return keys;
    }

    private static int[][] close(int places, List<int[]> bounds) {
        int[][] d = new int[places + 1][places + 1];
        for (int x = 0; x <= places; x++) {
            for (int y = 0; y <= places; y++) {
                d[x][y] = x == y ? 0 : 1000;
            }
        }
        for (int i = 0; i < places; i++) {
            d[i][i + 1] = 1;
            d[i + 1][i] = 0;
        }
        for (int[] bound : bounds) {
            int a = bound[0];
            int e = bound[1] + 1;
            d[a][e] = Math.min(d[a][e], bound[3]);
            d[e][a] = Math.min(d[e][a], -bound[2]);
        }
        for (int via = 0; via <= places; via++) {
            for (int x = 0; x <= places; x++) {
                for (int y = 0; y <= places; y++) {
                    d[x][y] = Math.min(d[x][y], d[x][via] + d[via][y]);
                }
            }
        }
        return d;
    }

    boolean none() {
        if (excess == null) {
            return listed.isEmpty();
        }
        for (int x = 0; x <= places; x++) {
            if (excess[x][x] < 0) {
                return true;
            }
        }
        return false;
    }

    int least(int a, int b) {
        if (excess != null) {
            return -excess[b + 1][a];
        }
        int least = Integer.MAX_VALUE;
        for (long layout : listed) {
            least = Math.min(least, keysIn(layout, a, b));
        }
        return least;
    }

    int most(int a, int b) {
        if (excess != null) {
            return excess[a][b + 1];
        }
        int most = -1;
        for (long layout : listed) {
            most = Math.max(most, keysIn(layout, a, b));
        }
        return most;
    }

    int known(int i) {
        int least = least(i, i);
        return least == most(i, i) ? least : -1;
    }

    int countKnown() {
        int count = 0;
        for (int i = 0; i < places; i++) {
            count += known(i) == -1 ? 0 : 1;
        }
        return count;
    }
}
