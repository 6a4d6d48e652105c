/** Promise 13: stage. */
public final class Promise13Test {
    private Promise13Test() {
    }

    public static void main(String[] args) {
        Sentences.test(Promise13Test.class);
    }

    @Sentence("Its STAGE is how many visits it has begun, 0 at first.")
    static void howManyVisitsItHasBegun(Due due) {
        ClusterTool x = Tools.routes(Tools.masks(2, 8, 8), Tools.masks());
        Tools.load(x, 0, 1);
        due.same("at first: stage(0)", x.stage(0), 0);
        int[][] steps = {{1, 1}, {4, 1}, {3, 2}, {3, 3}, {4, 3}, {5, 3}};
        for (int[] s : steps) {
            Tools.moved(due, x, 0, s[0]);
            due.same("begun, not over: stage(0)", x.stage(0), s[1]);
            x.tick(1);
            due.same("stage(0)", x.stage(0), s[1]);
        }
        due.same("without visits: stage(1)", x.stage(1), 0);
    }

    @Sentence("Its STAGE is how many visits it has begun, 0 at first.")
    static void zeroInThePassBeforeAllVisits(Due due) {
        ClusterTool x = Tools.inLock(4);
        Tools.step(due, x, 0, 4);
        due.same("stage(0)", x.stage(0), 0);
    }

    @Sentence("NONE: no such wafer.")
    static void noSuchWafer(Due due) {
        due.none("no wafers: stage(0)", new ClusterTool().stage(0));
        ClusterTool x = Tools.inLock(1);
        x.load(1);
        for (int wafer : new int[] {-1, 2, 3, 24, 25, 26, Tools.LEAST, Tools.MOST}) {
            due.none("stage(" + wafer + ")", x.stage(wafer));
        }
        due.same("the last: stage(1)", x.stage(1), 0);
        for (int wafer = 2; wafer < 25; wafer++) {
            x.load(0);
        }
        due.same("the last of 25: stage(24)", x.stage(24), 0);
        due.none("stage(25)", x.stage(25));
    }
}
