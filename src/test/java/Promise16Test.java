/** Promise 16: left. */
public final class Promise16Test {
    private Promise16Test() {
    }

    public static void main(String[] args) {
        Sentences.test(Promise16Test.class);
    }

    @Sentence("How many ticks its visit goes on")
    static void howManyTicksItsVisitGoesOn(Due due) {
        for (int time : new int[] {1, 2, 99, 100}) {
            ClusterTool x = Tools.with(Tools.visit(0, 1, time, 0));
            x.load(0);
            Tools.moved(due, x, 0, 0);
            for (int left = time; left > 0; left--) {
                due.same("left(0)", x.left(0), left);
                x.tick(1);
            }
            due.same("over: left(0)", x.left(0), 0);
        }
    }

    @Sentence("0 when it is ready")
    static void zeroWhenItIsReady(Due due) {
        ClusterTool x = Tools.with(Tools.visit(0, 1, 3, 2), Tools.visit(0, 4, 2, 0));
        x.load(0);
        due.same("in the lock: left(0)", x.left(0), 0);
        Tools.moved(due, x, 0, 0);
        due.same("left(0)", x.left(0), 3);
        x.tick(200);
        due.same("long over: left(0)", x.left(0), 0);
        Tools.moved(due, x, 0, 4);
        due.same("in the pass: left(0)", x.left(0), 0);
        Tools.moved(due, x, 0, 2);
        due.same("left(0)", x.left(0), 2);
        x.tick(2);
        due.same("just over: left(0)", x.left(0), 0);
        Tools.moved(due, x, 0, 4);
        Tools.moved(due, x, 0, 5);
        due.same("finished: left(0)", x.left(0), 0);
        x.load(1);
        due.same("without visits: left(1)", x.left(1), 0);
    }

    @Sentence("no time of a visit or limit passes in it")
    static void standsStillWhereItIsDown(Due due) {
        ClusterTool x = Tools.with(Tools.visit(0, 1, 3, 2));
        x.load(0);
        Tools.moved(due, x, 0, 0);
        x.tick(2);
        x.down(0, true);
        x.tick(200);
        due.same("down: left(0)", x.left(0), 1);
        x.down(0, false);
        x.tick(1);
        due.same("up: left(0)", x.left(0), 0);
    }

    @Sentence("NONE: no such wafer.")
    static void noSuchWafer(Due due) {
        due.none("no wafers: left(0)", new ClusterTool().left(0));
        ClusterTool x = Tools.inLock(1);
        x.load(1);
        for (int wafer : new int[] {-1, 2, 3, 24, 25, 26, Tools.LEAST, Tools.MOST}) {
            due.none("left(" + wafer + ")", x.left(wafer));
        }
        due.same("the last: left(1)", x.left(1), 0);
        for (int wafer = 2; wafer < 25; wafer++) {
            x.load(0);
        }
        due.same("the last of 25: left(24)", x.left(24), 0);
        due.none("left(25)", x.left(25));
    }
}
