/** Promises 8, 9 and 15 to 17: tick, down, when, left and stay. */
public final class TimeTest {
    private static final int NONE = ClusterTool.NONE;
    private static final Due DUE = new Due();

    private TimeTest() {
    }

    public static void main(String[] args) {
        ticksOutOfRangeAreRefused();
        visitTakesItsTime();
        lateAfterTheLimit();
        lateOnlyOnce();
        noneIsLateWithoutALimit();
        severalBecomeLateAtOnce();
        limitBeginsAnewWithEachVisit();
        noLimitOutsideTheChambers();
        downAnswersWhetherItChanges();
        nothingGoesOnWhereItIsDown();
        limitStandsStillWhereItIsDown();
        noWayLeadsIntoOrOut();
        whenIsByTheClock();
        whenThereIsNoSuchVisit();
        leftAndStayOutsideTheChambers();
        DUE.end();
    }

    private static ClusterTool inChamber(int time, int limit) {
        ClusterTool x = new ClusterTool();
        x.visit(0, 3, time, limit);
        x.visit(0, 3, 2, 3);
        x.load(0);
        x.load(0);
        DUE.same("move(0, 0)", x.move(0, 0), 0);
        return x;
    }

    private static void ticksOutOfRangeAreRefused() {
        ClusterTool x = inChamber(5, 2);
        int[] wrong = {-1, 201, -200, 1000, Integer.MAX_VALUE, Integer.MIN_VALUE};
        for (int n : wrong) {
            DUE.same("tick(" + n + ")", x.tick(n), NONE);
        }
        DUE.same("count(5)", x.count(5), 0);
        DUE.same("left(0)", x.left(0), 5);
        DUE.same("tick(0)", x.tick(0), 0);
        DUE.same("count(5)", x.count(5), 0);
        DUE.same("left(0)", x.left(0), 5);
        DUE.same("tick(200)", x.tick(200), 1);
        DUE.same("count(5)", x.count(5), 200);
        DUE.same("tick(200)", x.tick(200), 0);
        DUE.same("count(5)", x.count(5), 400);
    }

    private static void visitTakesItsTime() {
        ClusterTool x = inChamber(3, 0);
        for (int left = 3; left > 0; left--) {
            DUE.same("left(0)", x.left(0), left);
            DUE.same("may(0, 1)", x.may(0, 1), ClusterTool.UNREADY);
            DUE.same("when(0, 0, true)", x.when(0, 0, true), NONE);
            x.tick(1);
        }
        DUE.same("over: left(0)", x.left(0), 0);
        DUE.same("over: may(0, 1)", x.may(0, 1), 0);
        DUE.same("over: when(0, 0, true)", x.when(0, 0, true), 3);
        x.tick(4);
        x.tick(0);
        x.tick(9);
        DUE.same("long over: left(0)", x.left(0), 0);
        DUE.same("long over: when(0, 0, true)", x.when(0, 0, true), 3);
    }

    private static void lateAfterTheLimit() {
        ClusterTool x = inChamber(5, 2);
        DUE.same("stay(0)", x.stay(0), 7);
        DUE.same("tick(4)", x.tick(4), 0);
        DUE.same("stay(0)", x.stay(0), 3);
        DUE.same("tick(1)", x.tick(1), 0);
        DUE.same("over: stay(0)", x.stay(0), 2);
        DUE.same("tick(2)", x.tick(2), 0);
        DUE.same("at the limit: stay(0)", x.stay(0), 0);
        DUE.same("at the limit: count(2)", x.count(2), 0);
        DUE.same("one more: tick(1)", x.tick(1), 1);
        DUE.same("stay(0)", x.stay(0), 0);
        DUE.same("count(2)", x.count(2), 1);
        DUE.same("at once: tick(7)", inChamber(5, 2).tick(7), 0);
        DUE.same("at once: tick(8)", inChamber(5, 2).tick(8), 1);
    }

    private static void lateOnlyOnce() {
        ClusterTool x = inChamber(1, 1);
        DUE.same("tick(3)", x.tick(3), 1);
        DUE.same("late already: tick(3)", x.tick(3), 0);
        DUE.same("move(0, 1)", x.move(0, 1), 0);
        DUE.same("count(2)", x.count(2), 1);
        DUE.same("the second limit: stay(0)", x.stay(0), 5);
        DUE.same("late for ever: tick(6)", x.tick(6), 0);
        DUE.same("move(0, 5)", x.move(0, 5), 0);
        DUE.same("late for ever: count(2)", x.count(2), 1);
    }

    private static void noneIsLateWithoutALimit() {
        ClusterTool x = inChamber(1, 0);
        DUE.same("stay(0)", x.stay(0), NONE);
        DUE.same("tick(200)", x.tick(200), 0);
        DUE.same("count(2)", x.count(2), 0);
        DUE.same("stay(0)", x.stay(0), NONE);
    }

    private static void severalBecomeLateAtOnce() {
        ClusterTool x = inChamber(4, 3);
        x.tick(1);
        DUE.same("move(1, 1)", x.move(1, 1), 0);
        DUE.same("tick(20)", x.tick(20), 2);
        DUE.same("count(2)", x.count(2), 2);
        ClusterTool y = inChamber(4, 3);
        y.tick(1);
        y.move(1, 1);
        DUE.same("the first: tick(7)", y.tick(7), 1);
        DUE.same("the second: tick(1)", y.tick(1), 1);
    }

    private static void limitBeginsAnewWithEachVisit() {
        ClusterTool x = inChamber(2, 4);
        x.tick(5);
        DUE.same("stay(0)", x.stay(0), 1);
        DUE.same("again in the same chamber: move(0, 0)", x.move(0, 0), 0);
        DUE.same("left(0)", x.left(0), 2);
        DUE.same("stay(0)", x.stay(0), 5);
        DUE.same("tick(5)", x.tick(5), 0);
        DUE.same("stay(0)", x.stay(0), 0);
        DUE.same("tick(1)", x.tick(1), 1);
    }

    private static void noLimitOutsideTheChambers() {
        ClusterTool x = new ClusterTool();
        x.visit(0, 1, 1, 1);
        x.visit(0, 4, 1, 1);
        x.load(0);
        DUE.same("in the lock: tick(50)", x.tick(50), 0);
        x.move(0, 0);
        x.tick(2);
        DUE.same("move(0, 4)", x.move(0, 4), 0);
        DUE.same("in the pass: stay(0)", x.stay(0), NONE);
        DUE.same("in the pass: tick(50)", x.tick(50), 0);
        x.move(0, 2);
        DUE.same("stay(0)", x.stay(0), 2);
        x.tick(1);
        x.move(0, 4);
        x.move(0, 5);
        DUE.same("finished: tick(50)", x.tick(50), 0);
        DUE.same("count(2)", x.count(2), 0);
    }

    private static void downAnswersWhetherItChanges() {
        ClusterTool x = new ClusterTool();
        for (int chamber = 0; chamber < 4; chamber++) {
            DUE.same("down(" + chamber + ", false)", x.down(chamber, false), false);
            DUE.same("down(" + chamber + ", true)", x.down(chamber, true), true);
            DUE.same("down(" + chamber + ", true)", x.down(chamber, true), false);
        }
        for (int chamber = 0; chamber < 4; chamber++) {
            DUE.same("down(" + chamber + ", false)", x.down(chamber, false), true);
        }
        int[] wrong = {-1, 4, 5, 32, Integer.MAX_VALUE, Integer.MIN_VALUE};
        for (int chamber : wrong) {
            DUE.same("down(" + chamber + ", true)", x.down(chamber, true), false);
            DUE.same("down(" + chamber + ", false)", x.down(chamber, false), false);
        }
    }

    private static void nothingGoesOnWhereItIsDown() {
        ClusterTool x = inChamber(5, 2);
        x.tick(2);
        x.down(0, true);
        DUE.same("tick(100)", x.tick(100), 0);
        DUE.same("left(0)", x.left(0), 3);
        DUE.same("stay(0)", x.stay(0), 5);
        DUE.same("when(0, 0, true)", x.when(0, 0, true), NONE);
        DUE.same("the clock goes on: count(5)", x.count(5), 102);
        x.down(0, false);
        DUE.same("tick(4)", x.tick(4), 0);
        DUE.same("left(0)", x.left(0), 0);
        DUE.same("when(0, 0, true)", x.when(0, 0, true), 105);
        DUE.same("when(0, 0, false)", x.when(0, 0, false), 0);
    }

    private static void limitStandsStillWhereItIsDown() {
        ClusterTool x = inChamber(5, 2);
        x.tick(6);
        DUE.same("stay(0)", x.stay(0), 1);
        x.down(0, true);
        DUE.same("down: tick(200)", x.tick(200), 0);
        DUE.same("down: stay(0)", x.stay(0), 1);
        x.down(0, false);
        DUE.same("up: tick(1)", x.tick(1), 0);
        DUE.same("up: tick(1)", x.tick(1), 1);
        x.down(0, true);
        DUE.same("late stays late: count(2)", x.count(2), 1);
    }

    private static void noWayLeadsIntoOrOut() {
        ClusterTool x = inChamber(1, 0);
        x.tick(1);
        x.down(1, true);
        DUE.same("into 1: may(0, 1)", x.may(0, 1), ClusterTool.ASTRAY);
        DUE.same("into 1: may(1, 1)", x.may(1, 1), ClusterTool.ASTRAY);
        DUE.same("the same chamber: may(0, 0)", x.may(0, 0), 0);
        x.down(1, false);
        x.down(0, true);
        DUE.same("out of 0: may(0, 1)", x.may(0, 1), ClusterTool.ASTRAY);
        DUE.same("the same chamber, down: may(0, 0)", x.may(0, 0), ClusterTool.ASTRAY);
        DUE.same("another one: may(1, 1)", x.may(1, 1), 0);
        x.down(0, false);
        DUE.same("up again: may(0, 1)", x.may(0, 1), 0);
    }

    private static void whenIsByTheClock() {
        ClusterTool x = new ClusterTool();
        x.visit(0, 1, 2, 0);
        x.visit(0, 4, 3, 0);
        x.visit(0, 4, 1, 0);
        x.load(0);
        x.tick(10);
        x.move(0, 0);
        x.tick(1);
        x.tick(3);
        x.move(0, 4);
        x.tick(5);
        x.move(0, 2);
        x.tick(3);
        x.move(0, 2);
        int[] begins = {10, 19, 22};
        int[] ends = {12, 22, NONE};
        for (int i = 0; i < 3; i++) {
            DUE.same("when(0, " + i + ", false)", x.when(0, i, false), begins[i]);
            DUE.same("when(0, " + i + ", true)", x.when(0, i, true), ends[i]);
        }
        x.tick(1);
        DUE.same("when(0, 2, true)", x.when(0, 2, true), 23);
        x.move(0, 4);
        x.tick(1);
        x.move(0, 5);
        DUE.same("finished: when(0, 0, false)", x.when(0, 0, false), 10);
        DUE.same("finished: when(0, 2, true)", x.when(0, 2, true), 23);
    }

    private static void whenThereIsNoSuchVisit() {
        ClusterTool x = inChamber(1, 0);
        int[][] wrong = {{0, 1}, {0, -1}, {0, 3}, {0, 4}, {1, 0}, {2, 0}, {-1, 0}, {25, 0},
            {0, Integer.MAX_VALUE}, {0, Integer.MIN_VALUE}, {Integer.MAX_VALUE, 0}, {Integer.MIN_VALUE, 0}};
        for (int[] w : wrong) {
            DUE.same("when(" + w[0] + ", " + w[1] + ", false)", x.when(w[0], w[1], false), NONE);
            DUE.same("when(" + w[0] + ", " + w[1] + ", true)", x.when(w[0], w[1], true), NONE);
        }
    }

    private static void leftAndStayOutsideTheChambers() {
        ClusterTool x = inChamber(2, 2);
        int[] wrong = {-1, 2, 24, 25, Integer.MAX_VALUE, Integer.MIN_VALUE};
        for (int wafer : wrong) {
            DUE.same("left(" + wafer + ")", x.left(wafer), NONE);
            DUE.same("stay(" + wafer + ")", x.stay(wafer), NONE);
        }
        DUE.same("in the lock: left(1)", x.left(1), 0);
        DUE.same("in the lock: stay(1)", x.stay(1), NONE);
        x.tick(2);
        x.move(0, 0);
        x.tick(2);
        x.move(0, 5);
        DUE.same("finished: left(0)", x.left(0), 0);
        DUE.same("finished: stay(0)", x.stay(0), NONE);
    }
}
