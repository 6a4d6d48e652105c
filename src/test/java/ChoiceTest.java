/** Promises 6 and 7: next and go. */
public final class ChoiceTest {
    private static final int NONE = ClusterTool.NONE;
    private static final Due DUE = new Due();

    private ChoiceTest() {
    }

    public static void main(String[] args) {
        noneWhenNoneCanBeMade();
        insideBeforeTheLock();
        passBeforeTheLock();
        lessTimeToTheLimitFirst();
        limitBeforeNoLimit();
        withoutLimitInChambersAndPass();
        lateOnesComeFirst();
        lowerWaferThenLowerPlace();
        lowerWaferInTheLock();
        onlyWhatCanBeMade();
        nextChangesNothing();
        goMakesTheMove();
        goFinishesAll();
        DUE.end();
    }

    /** Wafers of route 0 visit a chamber of the mask first, those of route 1 one of the other mask. */
    private static ClusterTool routes(int mask0, int time0, int limit0, int mask1, int time1, int limit1) {
        ClusterTool x = new ClusterTool();
        x.visit(0, mask0, time0, limit0);
        x.visit(1, mask1, time1, limit1);
        return x;
    }

    private static void moved(ClusterTool x, int wafer, int place) {
        DUE.same("move(" + wafer + ", " + place + ")", x.move(wafer, place), 0);
    }

    /** Wafer 0, of route 0, comes into chamber 0 and a tick later wafer 1, of route 1, into chamber 1. */
    private static void bothInFront(ClusterTool x) {
        x.load(0);
        x.load(1);
        moved(x, 0, 0);
        x.tick(1);
        moved(x, 1, 1);
        x.tick(1);
    }

    /** Wafer 0, of route 1, comes into the pass a tick after wafer 1, of route 0, came into chamber 0. */
    private static void onePassOneFront(ClusterTool x) {
        x.load(1);
        x.load(0);
        moved(x, 1, 0);
        x.tick(1);
        moved(x, 0, 4);
        x.tick(1);
    }

    private static void noneWhenNoneCanBeMade() {
        ClusterTool x = new ClusterTool();
        DUE.same("no wafers: next()", x.next(), NONE);
        DUE.same("no wafers: go()", x.go(), NONE);
        x.visit(0, 1, 3, 0);
        x.load(0);
        x.load(1);
        moved(x, 0, 0);
        DUE.same("unready and finished: next()", x.next(), NONE);
        x.tick(3);
        DUE.same("ready: next()", x.next(), 5);
        x.down(0, true);
        DUE.same("down: next()", x.next(), NONE);
        DUE.same("down: go()", x.go(), NONE);
        DUE.same("place(0)", x.place(0), 0);
    }

    private static void insideBeforeTheLock() {
        ClusterTool x = routes(1, 1, 0, 2, 1, 0);
        x.load(1);
        x.load(0);
        moved(x, 1, 0);
        x.tick(1);
        DUE.same("wafer 1 is in a chamber: next()", x.next(), 8 + 5);
    }

    private static void passBeforeTheLock() {
        ClusterTool x = routes(1, 1, 0, 4, 1, 0);
        x.load(0);
        x.load(1);
        moved(x, 1, 4);
        x.tick(1);
        DUE.same("wafer 1 is in the pass: next()", x.next(), 8 + 2);
        x.down(2, true);
        DUE.same("it cannot go on, and so nothing else is safe: next()", x.next(), NONE);
    }

    private static void lessTimeToTheLimitFirst() {
        ClusterTool x = routes(1, 1, 9, 2, 1, 5);
        bothInFront(x);
        DUE.same("stay(0)", x.stay(0), 8);
        DUE.same("stay(1)", x.stay(1), 5);
        DUE.same("wafer 1 has less time: next()", x.next(), 8 + 5);
        ClusterTool y = routes(1, 1, 9, 2, 1, 8);
        bothInFront(y);
        DUE.same("as much time, the lower wafer: next()", y.next(), 5);
    }

    private static void limitBeforeNoLimit() {
        ClusterTool x = routes(1, 1, 0, 2, 1, 100);
        bothInFront(x);
        DUE.same("wafer 0 has no limit: next()", x.next(), 8 + 5);
        x.load(0);
        DUE.same("go()", x.go(), 8 + 5);
        x.tick(1);
        DUE.same("without a limit, but not in the lock: next()", x.next(), 5);
    }

    private static void withoutLimitInChambersAndPass() {
        ClusterTool x = routes(1, 1, 0, 4, 1, 0);
        onePassOneFront(x);
        DUE.same("pass and chamber alike, the lower wafer: next()", x.next(), 2);
        ClusterTool y = routes(1, 1, 1, 4, 1, 0);
        onePassOneFront(y);
        DUE.same("the pass has no limit: next()", y.next(), 8 + 5);
    }

    private static void lateOnesComeFirst() {
        ClusterTool x = routes(1, 1, 2, 2, 1, 1);
        bothInFront(x);
        DUE.same("1 and 1 to the limit: next()", x.next(), 5);
        x.tick(10);
        DUE.same("both late, 0 and 0: next()", x.next(), 5);
        DUE.same("count(2)", x.count(2), 2);
        ClusterTool y = routes(1, 1, 100, 2, 1, 1);
        bothInFront(y);
        y.tick(49);
        DUE.same("the late one: next()", y.next(), 8 + 5);
    }

    private static void lowerWaferThenLowerPlace() {
        ClusterTool x = new ClusterTool();
        x.visit(0, 15, 1, 1);
        x.visit(0, 15, 1, 0);
        x.load(0);
        DUE.same("all of 0, 1 and 4: next()", x.next(), 0);
        moved(x, 0, 1);
        x.tick(1);
        DUE.same("to 0 before 1 and 4: next()", x.next(), 0);
        x.down(0, true);
        DUE.same("to 1 again: next()", x.next(), 1);
        x.down(1, true);
        DUE.same("out of none: next()", x.next(), NONE);
    }

    private static void lowerWaferInTheLock() {
        ClusterTool x = routes(2, 1, 1, 1, 1, 1);
        x.load(0);
        x.load(1);
        DUE.same("wafer 0 to 1, not wafer 1 to 0: next()", x.next(), 1);
        x.down(1, true);
        DUE.same("wafer 1: next()", x.next(), 8);
    }

    private static void onlyWhatCanBeMade() {
        ClusterTool x = new ClusterTool();
        x.visit(0, 1, 1, 0);
        x.visit(0, 2, 1, 0);
        x.visit(1, 2, 1, 0);
        x.visit(1, 1, 1, 0);
        x.load(0);
        x.load(1);
        x.load(0);
        DUE.same("go()", x.go(), 0);
        DUE.same("busy: next()", x.next(), NONE);
        x.tick(1);
        DUE.same("wafer 1 is unsafe, wafer 0 goes on: go()", x.go(), 1);
        x.tick(1);
        DUE.same("home: go()", x.go(), 5);
        x.tick(1);
        DUE.same("now wafer 1 is the lowest: go()", x.go(), 8 + 1);
    }

    private static void nextChangesNothing() {
        ClusterTool x = routes(1, 1, 0, 2, 1, 0);
        x.load(0);
        for (int i = 0; i < 3; i++) {
            DUE.same("next()", x.next(), 0);
        }
        DUE.same("place(0)", x.place(0), 5);
        DUE.same("count(3)", x.count(3), 0);
    }

    private static void goMakesTheMove() {
        ClusterTool x = routes(4, 2, 0, 2, 1, 0);
        x.load(1);
        x.load(0);
        DUE.same("go()", x.go(), 1);
        DUE.same("place(0)", x.place(0), 1);
        DUE.same("stage(0)", x.stage(0), 1);
        DUE.same("count(3)", x.count(3), 1);
        x.tick(1);
        DUE.same("go()", x.go(), 5);
        DUE.same("one move a tick: go()", x.go(), NONE);
        x.tick(1);
        DUE.same("go()", x.go(), 8 + 4);
        DUE.same("in(4)", x.in(4), 1);
        DUE.same("the other robot: go()", x.go(), 8 + 2);
        DUE.same("in(4)", x.in(4), NONE);
        DUE.same("in(2)", x.in(2), 1);
        DUE.same("count(4)", x.count(4), 1);
    }

    /** As no move is unsafe, moves and ticks alone bring every wafer back. */
    private static void goFinishesAll() {
        int[][] masks = {{4, 1, 8}, {15, 15, 15}, {1, 2, 1}, {4, 2, 4}, {9, 6, 9}, {8, 4, 3}};
        for (int[] first : masks) {
            for (int[] second : masks) {
                goThrough(first, second);
            }
        }
    }

    private static void goThrough(int[] first, int[] second) {
        ClusterTool x = new ClusterTool();
        for (int i = 0; i < 3; i++) {
            x.visit(0, first[i], 1 + i, i);
            x.visit(1, second[i], 3 - i, 1);
        }
        for (int wafer = 0; wafer < 9; wafer++) {
            x.load(wafer % 2);
        }
        for (int step = 0; step < 240; step++) {
            if (x.go() == NONE) {
                x.tick(1);
            }
        }
        DUE.same("all finished", x.count(1), 9);
        DUE.same("none left: next()", x.next(), NONE);
    }
}
