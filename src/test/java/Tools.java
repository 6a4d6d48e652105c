/** What many tests begin with: tools with routes, and wafers that are brought to a place. */
final class Tools {
    static final int NONE = ClusterTool.NONE;
    static final int UNREADY = ClusterTool.UNREADY;
    static final int ASTRAY = ClusterTool.ASTRAY;
    static final int TAKEN = ClusterTool.TAKEN;
    static final int UNSAFE = ClusterTool.UNSAFE;
    static final int BUSY = ClusterTool.BUSY;
    static final int LEAST = Integer.MIN_VALUE;
    static final int MOST = Integer.MAX_VALUE;

    private Tools() {
    }

    /** A tool with visits, each told by its route, mask, time and limit. */
    static ClusterTool with(int[]... visits) {
        ClusterTool x = new ClusterTool();
        for (int[] v : visits) {
            x.visit(v[0], v[1], v[2], v[3]);
        }
        return x;
    }

    static int[] visit(int route, int mask, int time, int limit) {
        return new int[] {route, mask, time, limit};
    }

    static int[] masks(int... masks) {
        return masks;
    }

    /** Visits of one tick and without a limit. */
    static ClusterTool routes(int[] masks0, int[] masks1) {
        ClusterTool x = new ClusterTool();
        for (int mask : masks0) {
            x.visit(0, mask, 1, 0);
        }
        for (int mask : masks1) {
            x.visit(1, mask, 1, 0);
        }
        return x;
    }

    static void load(ClusterTool x, int... routes) {
        for (int route : routes) {
            x.load(route);
        }
    }

    /** A wafer in the lock whose only visit is of one tick and without a limit. */
    static ClusterTool inLock(int mask) {
        ClusterTool x = routes(masks(mask), masks());
        x.load(0);
        return x;
    }

    /** A wafer that is ready after a visit in a chamber, with one more visit before it. */
    static ClusterTool between(Due due, int chamber, int mask) {
        ClusterTool x = routes(masks(1 << chamber, mask), masks());
        x.load(0);
        bring(due, x, 0, chamber);
        return x;
    }

    static void moved(Due due, ClusterTool x, int wafer, int place) {
        due.same("move(" + wafer + ", " + place + ")", x.move(wafer, place), 0);
    }

    /** A move, and a tick after it. */
    static void step(Due due, ClusterTool x, int wafer, int place) {
        moved(due, x, wafer, place);
        x.tick(1);
    }

    /** From the lock to a chamber, through the pass if that is the way, with a tick after each move. */
    static void bring(Due due, ClusterTool x, int wafer, int chamber) {
        if (chamber > 1) {
            step(due, x, wafer, 4);
        }
        step(due, x, wafer, chamber);
    }

    /** What may() answers for the places 0 to 5. */
    static void ways(Due due, String where, ClusterTool x, int wafer, int... wants) {
        for (int to = 0; to < wants.length; to++) {
            due.same(where + ": may(" + wafer + ", " + to + ")", x.may(wafer, to), wants[to]);
        }
    }

    static void counts(Due due, String where, ClusterTool x, int... wants) {
        for (int what = 0; what < wants.length; what++) {
            due.same(where + ": count(" + what + ")", x.count(what), wants[what]);
        }
    }
}
