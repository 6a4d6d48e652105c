/** Promise 10: safe, and with it which situations can be emptied. */
public final class SafetyTest {
    private static final int UNSAFE = ClusterTool.UNSAFE;
    private static final Due DUE = new Due();

    private SafetyTest() {
    }

    public static void main(String[] args) {
        emptyToolIsSafe();
        downMakesItUnsafe();
        waferInADownChamberNeedNotComeOut();
        waferInADownChamberIsInNoOnesWay();
        unreadyWafersCount();
        wafersInTheLockDoNot();
        passIsTheBottleneck();
        ringOfTwo();
        bothSidesFull();
        alternativesHelp();
        passIsAWayRound();
        sameChamberIsEmptyForItsWafer();
        laterVisitsCount();
        unsafeMovesAreRefusedUntilItIsSafe();
        DUE.end();
    }

    private static ClusterTool routes(int[] masks0, int[] masks1) {
        ClusterTool x = new ClusterTool();
        for (int mask : masks0) {
            x.visit(0, mask, 1, 0);
        }
        for (int mask : masks1) {
            x.visit(1, mask, 1, 0);
        }
        return x;
    }

    private static void moved(ClusterTool x, int wafer, int place) {
        DUE.same("move(" + wafer + ", " + place + ")", x.move(wafer, place), 0);
        x.tick(1);
    }

    private static void emptyToolIsSafe() {
        ClusterTool x = routes(new int[] {4}, new int[] {1});
        DUE.same("no wafers: safe()", x.safe(), true);
        for (int chamber = 0; chamber < 4; chamber++) {
            x.down(chamber, true);
        }
        x.load(0);
        x.load(1);
        DUE.same("all down, none inside: safe()", x.safe(), true);
    }

    private static void downMakesItUnsafe() {
        ClusterTool x = routes(new int[] {4}, new int[] {12});
        x.load(0);
        x.load(1);
        moved(x, 0, 4);
        DUE.same("in the pass: safe()", x.safe(), true);
        x.down(2, true);
        DUE.same("2 is down: safe()", x.safe(), false);
        x.down(3, true);
        x.down(2, false);
        DUE.same("3 is down: safe()", x.safe(), true);
        moved(x, 0, 2);
        moved(x, 0, 4);
        DUE.same("on its way home: safe()", x.safe(), true);
        x.down(2, true);
        DUE.same("it needs no chamber any more: safe()", x.safe(), true);
    }

    private static void waferInADownChamberNeedNotComeOut() {
        ClusterTool x = routes(new int[] {1, 2}, new int[] {});
        x.load(0);
        moved(x, 0, 0);
        x.down(1, true);
        DUE.same("1 is down, wafer in 0: safe()", x.safe(), false);
        x.down(0, true);
        DUE.same("0 is down, too: safe()", x.safe(), true);
        x.down(0, false);
        DUE.same("0 is up again: safe()", x.safe(), false);
        x.down(1, false);
        DUE.same("all are up: safe()", x.safe(), true);
    }

    private static void waferInADownChamberIsInNoOnesWay() {
        ClusterTool x = routes(new int[] {1, 2}, new int[] {2});
        x.load(0);
        x.load(1);
        moved(x, 1, 1);
        moved(x, 0, 0);
        DUE.same("wafer 1 can go home: safe()", x.safe(), true);
        x.down(1, true);
        DUE.same("wafer 0 waits for 1, which is down: safe()", x.safe(), false);
        DUE.same("wafer 1 may not move: may(1, 5)", x.may(1, 5), ClusterTool.ASTRAY);
    }

    private static void unreadyWafersCount() {
        ClusterTool x = new ClusterTool();
        x.visit(0, 1, 50, 0);
        x.visit(0, 2, 50, 0);
        x.visit(1, 2, 50, 0);
        x.visit(1, 1, 50, 0);
        x.load(0);
        x.load(1);
        moved(x, 0, 0);
        DUE.same("wafer 0 is not ready: safe()", x.safe(), true);
        DUE.same("may(1, 1)", x.may(1, 1), UNSAFE);
    }

    private static void wafersInTheLockDoNot() {
        ClusterTool x = routes(new int[] {1, 2}, new int[] {2, 1});
        for (int wafer = 0; wafer < 25; wafer++) {
            x.load(wafer % 2);
        }
        DUE.same("all in the lock: safe()", x.safe(), true);
        moved(x, 0, 0);
        DUE.same("one of them inside: safe()", x.safe(), true);
    }

    private static void passIsTheBottleneck() {
        ClusterTool x = routes(new int[] {4, 1}, new int[] {1, 4});
        x.load(0);
        x.load(1);
        x.load(0);
        moved(x, 0, 4);
        moved(x, 0, 2);
        DUE.same("they would wait for each other's chamber: may(1, 0)", x.may(1, 0), UNSAFE);
        DUE.same("one to 2 while one is there: may(2, 4)", x.may(2, 4), UNSAFE);
        moved(x, 0, 4);
        moved(x, 0, 0);
        DUE.same("the pass is free: may(2, 4)", x.may(2, 4), 0);
        moved(x, 2, 4);
        moved(x, 0, 5);
        DUE.same("wafer 2 is in the pass: may(1, 0)", x.may(1, 0), UNSAFE);
    }

    private static void ringOfTwo() {
        ClusterTool x = routes(new int[] {1, 2, 1}, new int[] {2, 1, 2});
        x.load(0);
        x.load(1);
        x.load(0);
        moved(x, 0, 0);
        DUE.same("ring of two: may(1, 1)", x.may(1, 1), UNSAFE);
        moved(x, 0, 1);
        DUE.same("its chamber 0 again: may(2, 0)", x.may(2, 0), UNSAFE);
        moved(x, 0, 0);
        DUE.same("it goes home now: may(1, 1)", x.may(1, 1), 0);
        moved(x, 1, 1);
        DUE.same("safe()", x.safe(), true);
        moved(x, 0, 5);
        DUE.same("may(2, 0)", x.may(2, 0), UNSAFE);
    }

    /** Two wafers on each side that go to the other side next: none of them is in the pass yet. */
    private static void bothSidesFull() {
        ClusterTool y = routes(new int[] {3, 12}, new int[] {12, 3});
        for (int wafer = 0; wafer < 4; wafer++) {
            y.load(wafer < 2 ? 0 : 1);
        }
        moved(y, 0, 0);
        moved(y, 1, 1);
        moved(y, 2, 4);
        moved(y, 2, 2);
        DUE.same("one chamber is left: safe()", y.safe(), true);
        DUE.same("it would take that one: may(3, 4)", y.may(3, 4), UNSAFE);
        DUE.same("wafer 0 to 3: may(0, 4)", y.may(0, 4), 0);
        moved(y, 0, 4);
        DUE.same("wafer 2 to 0 only when the pass is free: may(2, 4)", y.may(2, 4), ClusterTool.TAKEN);
        DUE.same("wafer 0 to 3: may(0, 3)", y.may(0, 3), 0);
    }

    private static void alternativesHelp() {
        ClusterTool x = routes(new int[] {4, 8}, new int[] {8, 5});
        x.load(0);
        x.load(1);
        moved(x, 0, 4);
        moved(x, 0, 2);
        DUE.same("0 in place of 2: may(1, 4)", x.may(1, 4), 0);
        moved(x, 1, 4);
        moved(x, 1, 3);
        DUE.same("0 in place of 2: safe()", x.safe(), true);
        ClusterTool y = routes(new int[] {4, 8}, new int[] {8, 4});
        y.load(0);
        y.load(1);
        moved(y, 0, 4);
        moved(y, 0, 2);
        DUE.same("2 alone: may(1, 4)", y.may(1, 4), UNSAFE);
    }

    /** A chamber on the other side in the mask lets a wafer wait in the pass, even if it is down. */
    private static void passIsAWayRound() {
        ClusterTool x = routes(new int[] {1, 2}, new int[] {2, 5});
        x.load(0);
        x.load(1);
        x.down(2, true);
        moved(x, 0, 0);
        DUE.same("may(1, 1)", x.may(1, 1), 0);
        moved(x, 1, 1);
        DUE.same("safe()", x.safe(), true);
        DUE.same("next()", x.next(), 8 + 4);
        moved(x, 1, 4);
        moved(x, 0, 1);
        moved(x, 1, 0);
        DUE.same("stage(1)", x.stage(1), 2);
    }

    private static void sameChamberIsEmptyForItsWafer() {
        ClusterTool x = routes(new int[] {1, 1, 1}, new int[] {2, 2, 2});
        x.load(0);
        x.load(1);
        moved(x, 0, 0);
        DUE.same("each stays where it is: may(1, 1)", x.may(1, 1), 0);
        moved(x, 1, 1);
        DUE.same("safe()", x.safe(), true);
        moved(x, 0, 0);
        moved(x, 0, 0);
        moved(x, 0, 5);
        DUE.same("count(1)", x.count(1), 1);
    }

    private static void laterVisitsCount() {
        ClusterTool x = routes(new int[] {1, 2, 4}, new int[] {4, 4, 1});
        x.load(0);
        x.load(1);
        moved(x, 0, 0);
        DUE.same("wafer 0 can go on to 1 and make way: may(1, 4)", x.may(1, 4), 0);
        x.down(1, true);
        DUE.same("1 is down: may(1, 4)", x.may(1, 4), UNSAFE);
        x.down(1, false);
        moved(x, 0, 1);
        DUE.same("wafer 1 can leave 2: may(1, 4)", x.may(1, 4), 0);
    }

    private static void unsafeMovesAreRefusedUntilItIsSafe() {
        ClusterTool x = routes(new int[] {4}, new int[] {1});
        x.load(0);
        x.load(1);
        moved(x, 0, 4);
        x.down(2, true);
        DUE.same("it was unsafe before: may(1, 0)", x.may(1, 0), UNSAFE);
        DUE.same("next()", x.next(), ClusterTool.NONE);
        x.down(2, false);
        DUE.same("safe again: may(1, 0)", x.may(1, 0), 0);
    }
}
