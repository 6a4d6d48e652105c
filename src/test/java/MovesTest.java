/** Promises 4 and 5: may and move, and which ways there are. */
public final class MovesTest {
    private static final int NONE = ClusterTool.NONE;
    private static final int UNREADY = ClusterTool.UNREADY;
    private static final int ASTRAY = ClusterTool.ASTRAY;
    private static final int TAKEN = ClusterTool.TAKEN;
    private static final int UNSAFE = ClusterTool.UNSAFE;
    private static final int BUSY = ClusterTool.BUSY;
    private static final Due DUE = new Due();

    private MovesTest() {
    }

    public static void main(String[] args) {
        noSuchWaferOrPlace();
        waysFromTheLock();
        waysFromTheFront();
        waysFromTheBack();
        waysFromThePass();
        waysHome();
        unreadyComesFirst();
        astrayBeforeTaken();
        takenBeforeUnsafe();
        unsafeBeforeBusy();
        lockIsNeverTaken();
        sameChamberIsAMove();
        robotsAreBusyByThemselves();
        busyUntilATickGoesBy();
        refusedMovesChangeNothing();
        moveAnswersAsMay();
        DUE.end();
    }

    /** What may() answers for the places 0 to 5. */
    private static void ways(String where, ClusterTool x, int wafer, int... wants) {
        for (int to = 0; to < wants.length; to++) {
            DUE.same(where + ": may(" + wafer + ", " + to + ")", x.may(wafer, to), wants[to]);
        }
    }

    /** A wafer that has had its first visit in a chamber and has one more, with a mask, before it. */
    private static ClusterTool between(int chamber, int mask) {
        ClusterTool x = new ClusterTool();
        x.visit(0, 1 << chamber, 1, 0);
        x.visit(0, mask, 1, 0);
        x.load(0);
        bring(x, 0, chamber);
        x.tick(1);
        return x;
    }

    private static void bring(ClusterTool x, int wafer, int chamber) {
        if (chamber > 1) {
            DUE.same("bring: move(" + wafer + ", 4)", x.move(wafer, 4), 0);
            x.tick(1);
        }
        DUE.same("bring: move(" + wafer + ", " + chamber + ")", x.move(wafer, chamber), 0);
    }

    private static ClusterTool inLock(int mask) {
        ClusterTool x = new ClusterTool();
        x.visit(0, mask, 1, 0);
        x.load(0);
        return x;
    }

    private static void noSuchWaferOrPlace() {
        ClusterTool x = inLock(15);
        int[][] wrong = {{-1, 0}, {1, 0}, {25, 0}, {0, -1}, {0, 6}, {0, 8}, {-1, -1}, {1, 6},
            {Integer.MAX_VALUE, 0}, {Integer.MIN_VALUE, 0}, {0, Integer.MAX_VALUE}, {0, Integer.MIN_VALUE}};
        for (int[] w : wrong) {
            DUE.same("may(" + w[0] + ", " + w[1] + ")", x.may(w[0], w[1]), NONE);
            DUE.same("move(" + w[0] + ", " + w[1] + ")", x.move(w[0], w[1]), NONE);
        }
        DUE.same("count(3)", x.count(3), 0);
        x.move(0, 0);
        DUE.same("not ready, but no such place", x.may(0, 6), NONE);
    }

    private static void waysFromTheLock() {
        ways("lock, mask 0", inLock(1), 0, 0, ASTRAY, ASTRAY, ASTRAY, ASTRAY, ASTRAY);
        ways("lock, mask 1", inLock(2), 0, ASTRAY, 0, ASTRAY, ASTRAY, ASTRAY, ASTRAY);
        ways("lock, mask 2", inLock(4), 0, ASTRAY, ASTRAY, ASTRAY, ASTRAY, 0, ASTRAY);
        ways("lock, mask 3", inLock(8), 0, ASTRAY, ASTRAY, ASTRAY, ASTRAY, 0, ASTRAY);
        ways("lock, mask 0 1", inLock(3), 0, 0, 0, ASTRAY, ASTRAY, ASTRAY, ASTRAY);
        ways("lock, all", inLock(15), 0, 0, 0, ASTRAY, ASTRAY, 0, ASTRAY);
    }

    private static void waysFromTheFront() {
        ways("0, mask 0", between(0, 1), 0, 0, ASTRAY, ASTRAY, ASTRAY, ASTRAY, ASTRAY);
        ways("0, mask 1", between(0, 2), 0, ASTRAY, 0, ASTRAY, ASTRAY, ASTRAY, ASTRAY);
        ways("0, mask 2", between(0, 4), 0, ASTRAY, ASTRAY, ASTRAY, ASTRAY, 0, ASTRAY);
        ways("1, mask 3", between(1, 8), 0, ASTRAY, ASTRAY, ASTRAY, ASTRAY, 0, ASTRAY);
        ways("1, mask 0", between(1, 1), 0, 0, ASTRAY, ASTRAY, ASTRAY, ASTRAY, ASTRAY);
        ways("1, all", between(1, 15), 0, 0, 0, ASTRAY, ASTRAY, 0, ASTRAY);
    }

    private static void waysFromTheBack() {
        ways("2, mask 2", between(2, 4), 0, ASTRAY, ASTRAY, 0, ASTRAY, ASTRAY, ASTRAY);
        ways("2, mask 3", between(2, 8), 0, ASTRAY, ASTRAY, ASTRAY, 0, ASTRAY, ASTRAY);
        ways("2, mask 0", between(2, 1), 0, ASTRAY, ASTRAY, ASTRAY, ASTRAY, 0, ASTRAY);
        ways("3, mask 1", between(3, 2), 0, ASTRAY, ASTRAY, ASTRAY, ASTRAY, 0, ASTRAY);
        ways("3, mask 2 3", between(3, 12), 0, ASTRAY, ASTRAY, 0, 0, ASTRAY, ASTRAY);
        ways("3, all", between(3, 15), 0, ASTRAY, ASTRAY, 0, 0, 0, ASTRAY);
    }

    private static void waysFromThePass() {
        ClusterTool x = inLock(15);
        x.move(0, 4);
        x.tick(1);
        ways("pass, all", x, 0, 0, 0, 0, 0, ASTRAY, ASTRAY);
        ClusterTool y = inLock(6);
        y.move(0, 4);
        y.tick(1);
        ways("pass, mask 1 2", y, 0, ASTRAY, 0, 0, ASTRAY, ASTRAY, ASTRAY);
        ClusterTool z = inLock(4);
        z.move(0, 4);
        ways("back robot from the pass while the front one is busy", z, 0,
                ASTRAY, ASTRAY, 0, ASTRAY, ASTRAY, ASTRAY);
    }

    private static void waysHome() {
        for (int chamber = 0; chamber < 4; chamber++) {
            ClusterTool x = inLock(1 << chamber);
            bring(x, 0, chamber);
            x.tick(1);
            boolean isBack = chamber > 1;
            ways("home from " + chamber, x, 0, ASTRAY, ASTRAY, ASTRAY, ASTRAY,
                    isBack ? 0 : ASTRAY, isBack ? ASTRAY : 0);
            if (isBack) {
                DUE.same("to the pass", x.move(0, 4), 0);
                ways("home from the pass", x, 0, ASTRAY, ASTRAY, ASTRAY, ASTRAY, ASTRAY, 0);
            }
            DUE.same("home", x.move(0, 5), 0);
            DUE.same("finished", x.count(1), 1);
            x.tick(1);
            ways("finished", x, 0, UNREADY, UNREADY, UNREADY, UNREADY, UNREADY, UNREADY);
        }
    }

    private static void unreadyComesFirst() {
        ClusterTool x = inLock(1);
        x.load(0);
        x.move(0, 0);
        ways("not ready", x, 0, UNREADY, UNREADY, UNREADY, UNREADY, UNREADY, UNREADY);
        x.down(0, true);
        ways("not ready, down", x, 0, UNREADY, UNREADY, UNREADY, UNREADY, UNREADY, UNREADY);
        x.down(0, false);
        x.tick(1);
        x.down(0, true);
        ways("ready, down", x, 0, ASTRAY, ASTRAY, ASTRAY, ASTRAY, ASTRAY, ASTRAY);
        ClusterTool y = new ClusterTool();
        y.load(1);
        ways("route without visits", y, 0, UNREADY, UNREADY, UNREADY, UNREADY, UNREADY, UNREADY);
    }

    private static void astrayBeforeTaken() {
        ClusterTool x = new ClusterTool();
        x.visit(0, 1, 1, 0);
        x.visit(1, 3, 1, 0);
        x.load(0);
        x.load(1);
        x.load(0);
        x.move(0, 0);
        x.tick(1);
        x.move(1, 1);
        DUE.same("another's chamber that is not in the mask", x.may(2, 1), ASTRAY);
        DUE.same("another's chamber that is", x.may(2, 0), TAKEN);
        x.down(0, true);
        DUE.same("another's chamber that is down", x.may(2, 0), ASTRAY);
    }

    private static void takenBeforeUnsafe() {
        ClusterTool x = new ClusterTool();
        x.visit(0, 4, 1, 0);
        x.load(0);
        x.load(0);
        x.move(0, 4);
        DUE.same("pass that is taken, robot busy", x.may(1, 4), TAKEN);
        x.down(2, true);
        DUE.same("pass that is taken, nowhere to go from it", x.may(1, 4), TAKEN);
        x.down(2, false);
        x.move(0, 2);
        x.down(2, true);
        DUE.same("nowhere to go from the pass, robot busy", x.may(1, 4), UNSAFE);
    }

    private static void unsafeBeforeBusy() {
        ClusterTool x = new ClusterTool();
        x.visit(0, 1, 1, 0);
        x.visit(0, 2, 1, 0);
        x.visit(1, 2, 1, 0);
        x.visit(1, 1, 1, 0);
        x.load(0);
        x.load(1);
        x.move(0, 0);
        DUE.same("each would wait for the other's chamber, robot busy", x.may(1, 1), UNSAFE);
        x.tick(1);
        DUE.same("and not busy", x.move(1, 1), UNSAFE);
        DUE.same("the first one goes on", x.move(0, 1), 0);
        DUE.same("its chamber is taken", x.may(1, 1), TAKEN);
        x.tick(1);
        x.move(0, 5);
        DUE.same("safe, but busy", x.may(1, 1), BUSY);
        x.tick(1);
        DUE.same("safe", x.move(1, 1), 0);
    }

    private static void lockIsNeverTaken() {
        ClusterTool x = inLock(3);
        x.load(0);
        x.load(0);
        x.move(0, 0);
        x.tick(1);
        x.move(1, 1);
        x.tick(1);
        DUE.same("lock with a new wafer: move(0, 5)", x.move(0, 5), 0);
        x.tick(1);
        DUE.same("lock with a finished wafer: move(1, 5)", x.move(1, 5), 0);
        DUE.same("count(1)", x.count(1), 2);
    }

    private static void sameChamberIsAMove() {
        ClusterTool x = between(3, 8);
        x.load(0);
        DUE.same("again in 3: may(0, 3)", x.may(0, 3), 0);
        DUE.same("again in 3: move(0, 3)", x.move(0, 3), 0);
        DUE.same("stage(0)", x.stage(0), 2);
        DUE.same("in(3)", x.in(3), 0);
        DUE.same("left(0)", x.left(0), 1);
        DUE.same("moves of the back robot", x.count(4), 2);
        DUE.same("moves of the front robot", x.count(3), 1);
        DUE.same("when(0, 1, false)", x.when(0, 1, false), 2);
        ClusterTool y = between(0, 1);
        y.load(0);
        y.move(0, 0);
        DUE.same("again in 0: front robot", y.count(3), 2);
        y.tick(1);
        y.move(0, 5);
        DUE.same("front robot is busy", y.may(1, 0), BUSY);
    }

    private static void robotsAreBusyByThemselves() {
        ClusterTool x = new ClusterTool();
        x.visit(0, 4, 1, 0);
        x.visit(0, 8, 1, 0);
        x.visit(1, 1, 1, 0);
        x.load(0);
        x.load(1);
        x.load(1);
        x.move(0, 4);
        DUE.same("front moved: may(1, 0)", x.may(1, 0), BUSY);
        DUE.same("back has not: move(0, 2)", x.move(0, 2), 0);
        x.tick(1);
        DUE.same("2 to 3 is the back robot's: move(0, 3)", x.move(0, 3), 0);
        DUE.same("front has not moved: move(1, 0)", x.move(1, 0), 0);
        DUE.same("count(3)", x.count(3), 2);
        DUE.same("count(4)", x.count(4), 2);
        x.tick(1);
        DUE.same("3 to the pass is the back robot's", x.move(0, 4), 0);
        DUE.same("the pass to the lock is the front robot's", x.move(0, 5), 0);
        DUE.same("front moved: may(1, 5)", x.may(1, 5), BUSY);
        DUE.same("count(3)", x.count(3), 3);
        DUE.same("count(4)", x.count(4), 3);
    }

    private static void busyUntilATickGoesBy() {
        ClusterTool x = inLock(3);
        x.load(0);
        x.move(0, 0);
        DUE.same("at once: move(1, 1)", x.move(1, 1), BUSY);
        x.tick(0);
        DUE.same("after no tick: move(1, 1)", x.move(1, 1), BUSY);
        x.tick(201);
        x.tick(-1);
        DUE.same("after refused ticks: move(1, 1)", x.move(1, 1), BUSY);
        x.tick(1);
        DUE.same("after a tick: move(1, 1)", x.move(1, 1), 0);
    }

    private static void refusedMovesChangeNothing() {
        ClusterTool x = inLock(1);
        x.load(0);
        x.move(0, 0);
        x.tick(1);
        x.move(1, 0);
        x.move(1, 2);
        x.move(0, 4);
        DUE.same("place(0)", x.place(0), 0);
        DUE.same("place(1)", x.place(1), 5);
        DUE.same("stage(1)", x.stage(1), 0);
        DUE.same("count(3)", x.count(3), 1);
        DUE.same("count(4)", x.count(4), 0);
        DUE.same("robots are free: may(0, 5)", x.may(0, 5), 0);
        DUE.same("asking is no move: may(0, 5)", x.may(0, 5), 0);
        DUE.same("place(0)", x.place(0), 0);
        DUE.same("count(1)", x.count(1), 0);
    }

    private static void moveAnswersAsMay() {
        ClusterTool x = inLock(15);
        x.load(0);
        x.load(0);
        for (int step = 0; step < 60; step++) {
            int wafer = step % 4;
            int place = step * 5 % 7;
            int due = x.may(wafer, place);
            DUE.same("step " + step + ": move(" + wafer + ", " + place + ")", x.move(wafer, place), due);
            if (due == 0) {
                DUE.same("step " + step + ": place(" + wafer + ")", x.place(wafer), place);
            }
            x.tick(step % 2);
        }
    }
}
