import java.util.Arrays;

/** A tool of four chambers around two robots; ../shared/DOC.md says what each call answers. */
public final class ClusterTool {
    public static final int NONE = -1;
    public static final int UNREADY = 1;
    public static final int ASTRAY = 2;
    public static final int TAKEN = 3;
    public static final int UNSAFE = 4;
    public static final int BUSY = 5;

    private static final int CHAMBERS = 4;
    private static final int PASS = 4;
    private static final int LOCK = 5;
    private static final int PLACES = 6;
    private static final int ROUTES = 2;
    private static final int MOST_VISITS = 3;
    private static final int MOST_WAFERS = 25;
    private static final int MOST_TICKS = 200;
    private static final int NEXT_WAFER = 8;
    /** Above every time to a limit, which is 200 at most. */
    private static final int RANK_WITHOUT_LIMIT = 1000;
    private static final int RANK_IN_LOCK = 1001;
    private static final int RANK_OF_NONE = 1002;

    private final Ways ways = new Ways();
    private final Emptying emptying = new Emptying();
    private final Robot front = new Robot();
    private final Robot back = new Robot();
    private final Wafer[] wafers = new Wafer[MOST_WAFERS];
    private final int[] inside = {NONE, NONE, NONE, NONE, NONE};
    private int loaded = 0;
    private int clock = 0;

    public ClusterTool() {
    }

    public int visit(int route, int mask, int time, int limit) {
        Route to = ways.routeOf(route);
        if (to == null || loaded > 0 || to.length == MOST_VISITS) {
            return NONE;
        }
        if (!isWithin(mask, 1, 15) || !isWithin(time, 1, 100) || !isWithin(limit, 0, 100)) {
            return NONE;
        }
        to.append(mask, time, limit);
        return to.length;
    }

    public int load(int route) {
        Route on = ways.routeOf(route);
        if (on == null || loaded >= MOST_WAFERS) {
            return NONE;
        }
        wafers[loaded] = new Wafer(route, on.length == 0);
        loaded++;
        return loaded - 1;
    }

    public int may(int wafer, int place) {
        Wafer moved = waferOf(wafer);
        if (moved == null || !isWithin(place, 0, PLACES - 1)) {
            return NONE;
        }
        if (moved.finished || moved.left > 0) {
            return UNREADY;
        }
        if (!ways.leads(moved.route, moved.stage, moved.place, place)) {
            return ASTRAY;
        }
        if (isTaken(moved, place)) {
            return TAKEN;
        }
        if (!emptying.search(ways, situationAfter(moved, place), 0)) {
            return UNSAFE;
        }
        return robotFor(moved.place, place).busy ? BUSY : 0;
    }

    public int move(int wafer, int place) {
        int why = may(wafer, place);
        if (why == 0) {
            carry(wafer, place);
        }
        return why;
    }

    public int next() {
        int best = NONE;
        int bestRank = RANK_OF_NONE;
        for (int wafer = 0; wafer < loaded; wafer++) {
            int rank = rankOf(wafer);
            for (int to = 0; to < PLACES && rank < bestRank; to++) {
                if (may(wafer, to) == 0) {
                    best = NEXT_WAFER * wafer + to;
                    bestRank = rank;
                }
            }
        }
        return best;
    }

    public int go() {
        int chosen = next();
        if (chosen != NONE) {
            carry(chosen / NEXT_WAFER, chosen % NEXT_WAFER);
        }
        return chosen;
    }

    public int tick(int n) {
        if (!isWithin(n, 0, MOST_TICKS)) {
            return NONE;
        }
        int becameLate = 0;
        for (int chamber = 0; chamber < CHAMBERS; chamber++) {
            Wafer there = waferOf(inside[chamber]);
            if (there != null && !ways.isDown(chamber)) {
                there.spend(n, clock);
                becameLate += there.turnsLate(limitOf(there)) ? 1 : 0;
            }
        }
        clock += n;
        if (n > 0) {
            front.busy = false;
            back.busy = false;
        }
        return becameLate;
    }

    public boolean down(int chamber, boolean is) {
        if (!isWithin(chamber, 0, CHAMBERS - 1) || ways.isDown(chamber) == is) {
            return false;
        }
        ways.turn(chamber);
        // What could be emptied before may not be now, and the other way round.
        emptying.forget();
        return true;
    }

    public boolean safe() {
        return emptying.search(ways, situation(), 0);
    }

    public int in(int place) {
        return isWithin(place, 0, PASS) ? inside[place] : NONE;
    }

    public int place(int wafer) {
        Wafer asked = waferOf(wafer);
        return asked == null ? NONE : asked.place;
    }

    public int stage(int wafer) {
        Wafer asked = waferOf(wafer);
        return asked == null ? NONE : asked.stage;
    }

    public int visited(int wafer, int i) {
        Wafer asked = waferOf(wafer);
        return asked == null || !asked.hasBegun(i) ? NONE : asked.chambers[i];
    }

    public int when(int wafer, int i, boolean end) {
        Wafer asked = waferOf(wafer);
        if (asked == null || !asked.hasBegun(i)) {
            return NONE;
        }
        return end ? asked.ends[i] : asked.begins[i];
    }

    public int left(int wafer) {
        Wafer asked = waferOf(wafer);
        return asked == null ? NONE : asked.left;
    }

    public int stay(int wafer) {
        Wafer asked = waferOf(wafer);
        if (asked == null || asked.place >= CHAMBERS) {
            return NONE;
        }
        int limit = limitOf(asked);
        return limit == 0 ? NONE : Math.max(0, asked.left + limit - asked.waited);
    }

    public int count(int what) {
        switch (what) {
            case 0:
                return loaded;
            case 1:
                return countFinished();
            case 2:
                return countLate();
            case 3:
                return front.moves;
            case 4:
                return back.moves;
            case 5:
                return clock;
            default:
                return NONE;
        }
    }

    private static boolean isWithin(int value, int low, int high) {
        return value >= low && value <= high;
    }

    private Wafer waferOf(int number) {
        return isWithin(number, 0, loaded - 1) ? wafers[number] : null;
    }

    /** The limit of the last visit that a wafer has begun, 0 for none. */
    private int limitOf(Wafer wafer) {
        Route route = ways.routeOf(wafer.route);
        return route == null ? 0 : route.limitAt(wafer.stage - 1);
    }

    private boolean isTaken(Wafer moved, int place) {
        return place != LOCK && place != moved.place && inside[place] != NONE;
    }

    /** A wafer in a chamber that is down is left out: no way leads there, and it need not come out. */
    private int situation() {
        int code = 0;
        for (int place = 0; place <= PASS; place++) {
            Wafer there = waferOf(inside[place]);
            if (there != null && !ways.isDown(place)) {
                code = Situation.with(code, place, there.route, there.stage);
            }
        }
        return code;
    }

    private int situationAfter(Wafer moved, int to) {
        return Situation.after(situation(), moved.route, moved.stage, moved.place, to);
    }

    private Robot robotFor(int from, int to) {
        return Ways.isBack(from) || Ways.isBack(to) ? back : front;
    }

    private void carry(int number, int to) {
        Wafer moved = waferOf(number);
        if (moved == null) {
            return;
        }
        Robot robot = robotFor(moved.place, to);
        robot.busy = true;
        robot.moves++;
        if (moved.place != LOCK) {
            inside[moved.place] = NONE;
        }
        if (to != LOCK) {
            inside[to] = number;
        }
        moved.arrive(to);
        Route route = ways.routeOf(moved.route);
        if (to < CHAMBERS && route != null) {
            moved.begin(route.timeAt(moved.stage), clock);
        }
    }

    /** What comes first has the lowest rank; among equals the lower wafer comes first. */
    private int rankOf(int number) {
        if (place(number) == LOCK) {
            return RANK_IN_LOCK;
        }
        int toLimit = stay(number);
        return toLimit == NONE ? RANK_WITHOUT_LIMIT : toLimit;
    }

    private int countFinished() {
        int finished = 0;
        for (int number = 0; number < loaded; number++) {
            Wafer counted = waferOf(number);
            finished += counted != null && counted.finished ? 1 : 0;
        }
        return finished;
    }

    private int countLate() {
        int late = 0;
        for (int number = 0; number < loaded; number++) {
            Wafer counted = waferOf(number);
            late += counted != null && counted.late ? 1 : 0;
        }
        return late;
    }

    /** One of the two arms that carry wafers. */
    private static final class Robot {
        private boolean busy = false;
        private int moves = 0;
    }

    /** Visits in the order in which a wafer makes them. */
    private static final class Route {
        private final int[] masks = new int[MOST_VISITS];
        private final int[] times = new int[MOST_VISITS];
        private final int[] limits = new int[MOST_VISITS];
        private int length = 0;

        void append(int mask, int time, int limit) {
            if (length < MOST_VISITS) {
                masks[length] = mask;
                times[length] = time;
                limits[length] = limit;
                length++;
            }
        }

        /** 0 when there is no such visit, which no visit's mask is. */
        int maskAt(int i) {
            return has(i) ? masks[i] : 0;
        }

        int timeAt(int i) {
            return has(i) ? times[i] : 0;
        }

        int limitAt(int i) {
            return has(i) ? limits[i] : 0;
        }

        private boolean has(int i) {
            return i >= 0 && i < length;
        }
    }

    /** One wafer: where it is, and what it has gone through. */
    private static final class Wafer {
        private final int route;
        private final int[] chambers = new int[MOST_VISITS];
        private final int[] begins = new int[MOST_VISITS];
        private final int[] ends = new int[MOST_VISITS];
        private int place = LOCK;
        private int stage = 0;
        private int left = 0;
        /** Ticks in the chamber since the visit was over. */
        private int waited = 0;
        private boolean finished;
        private boolean late = false;

        Wafer(int route, boolean finished) {
            this.route = route;
            this.finished = finished;
        }

        boolean hasBegun(int i) {
            return isWithin(i, 0, stage - 1);
        }

        void arrive(int to) {
            place = to;
            waited = 0;
            finished = to == LOCK;
        }

        void begin(int time, int clock) {
            if (stage < MOST_VISITS) {
                chambers[stage] = place;
                begins[stage] = clock;
                ends[stage] = NONE;
                left = time;
                stage++;
            }
        }

        /** Lets ticks go by in a chamber that is up, the clock being what it was before them. */
        void spend(int ticks, int clock) {
            int worked = Math.min(left, ticks);
            if (worked > 0 && worked == left && stage > 0) {
                ends[stage - 1] = clock + worked;
            }
            left -= worked;
            waited += ticks - worked;
        }

        /** Whether it is late now and was not before. */
        boolean turnsLate(int limit) {
            if (late || limit == 0 || waited <= limit) {
                return false;
            }
            late = true;
            return true;
        }
    }

    /** The routes, the chambers that are down, and the ways that follow from them. */
    private static final class Ways {
        private static final int FRONT_CHAMBERS = 0b000011;
        private static final int BACK_CHAMBERS = 0b001100;
        private static final int FRONT_REACH = 0b110011;
        private static final int BACK_REACH = 0b011100;

        private final Route[] routes = {new Route(), new Route()};
        private int downs = 0;

        static boolean isBack(int place) {
            return place == 2 || place == 3;
        }

        Route routeOf(int number) {
            return isWithin(number, 0, ROUTES - 1) ? routes[number] : null;
        }

        boolean isDown(int place) {
            return (downs & (1 << place)) != 0;
        }

        void turn(int chamber) {
            downs ^= 1 << chamber;
        }

        boolean leads(int route, int stage, int from, int to) {
            Route on = routeOf(route);
            if (on == null || isDown(from) || isDown(to) || !isReach(from, to)) {
                return false;
            }
            int mask = on.maskAt(stage);
            if (mask == 0) {
                return isHomeward(from, to);
            }
            if (to < CHAMBERS) {
                return (mask & (1 << to)) != 0;
            }
            return to == PASS && (mask & beyond(from)) != 0;
        }

        private static boolean isReach(int from, int to) {
            int both = (1 << from) | (1 << to);
            return (FRONT_REACH & both) == both || (BACK_REACH & both) == both;
        }

        private static boolean isHomeward(int from, int to) {
            return to == LOCK ? from != LOCK : to == PASS && isBack(from);
        }

        /** The chambers that only the robot on the other side of the pass reaches; none from the pass. */
        private static int beyond(int from) {
            if (from == PASS) {
                return 0;
            }
            return isBack(from) ? FRONT_CHAMBERS : BACK_CHAMBERS;
        }
    }

    /**
     * A situation as a number of 16 bits: three for each chamber and, above them, four for the pass.
     * A wafer shows as its route and stage alone, for no more than these decides where it can go.
     * A wafer in a chamber has begun a visit, so that 0 is left for an empty one; in the pass it may
     * have begun none, so that a bit of its own says that there is one.
     */
    private static final class Situation {
        private static final int EMPTY = 0;
        private static final int BITS = 3;
        private static final int PASS_BIT = 8;

        static int with(int code, int place, int route, int stage) {
            int mark = (place == PASS ? PASS_BIT : 0) | (route << 2) | stage;
            return code | (mark << (BITS * place));
        }

        /** What is in a chamber or the pass, 0 for nothing. */
        static int markAt(int code, int place) {
            return (code >> (BITS * place)) & (place == PASS ? 15 : 7);
        }

        static int routeIn(int mark) {
            return (mark >> 2) & 1;
        }

        static int stageIn(int mark) {
            return mark & 3;
        }

        static int after(int code, int route, int stage, int from, int to) {
            int lifted = from == LOCK ? code : code - (markAt(code, from) << (BITS * from));
            if (to == LOCK) {
                return lifted;
            }
            return with(lifted, to, route, to < CHAMBERS ? stage + 1 : stage);
        }

        static boolean isFree(int code, int from, int to) {
            return to == LOCK || to == from || markAt(code, to) == 0;
        }
    }

    /** Finds out which situations can be emptied, and keeps that, for most are asked for again. */
    private static final class Emptying {
        /** Five wafers with at most seven moves each, pass, chamber, pass and so on to the lock. */
        private static final int DEEPEST = 35;
        private static final int ROWS = 1024;

        private final long[] known = new long[ROWS];
        private final long[] possible = new long[ROWS];

        /** Due when chambers go down or up; routes stay as they are once a wafer is there. */
        void forget() {
            Arrays.fill(known, 0L);
            Arrays.fill(possible, 0L);
        }

        private boolean search(Ways ways, int code, int depth) {
            if (code == Situation.EMPTY) {
                return true;
            }
            if (depth >= DEEPEST) {
                return false;
            }
            int row = (code >> 6) & (ROWS - 1);
            long bit = 1L << (code & 63);
            if ((known[row] & bit) == 0) {
                boolean found = searchMoves(ways, code, depth);
                known[row] |= bit;
                possible[row] |= found ? bit : 0L;
            }
            return (possible[row] & bit) != 0;
        }

        /** Tries the lock first: what goes there is out of the way of all others. */
        private boolean searchMoves(Ways ways, int code, int depth) {
            for (int to = LOCK; to >= 0; to--) {
                for (int from = 0; from <= PASS; from++) {
                    int mark = Situation.markAt(code, from);
                    int route = Situation.routeIn(mark);
                    int stage = Situation.stageIn(mark);
                    if (mark != 0 && Situation.isFree(code, from, to) && ways.leads(route, stage, from, to)
                            && search(ways, Situation.after(code, route, stage, from, to), depth + 1)) {
                        return true;
                    }
                }
            }
            return false;
        }
    }
}
