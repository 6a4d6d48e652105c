/** Promise 17: stay. */
public final class Promise17Test {
    private Promise17Test() {
    }

    public static void main(String[] args) {
        Sentences.test(Promise17Test.class);
    }

    private static ClusterTool inChamber(Due due, int time, int limit) {
        ClusterTool x = Tools.with(Tools.visit(0, 1, time, limit), Tools.visit(0, 5, 2, 0), Tools.visit(0, 1, 4, 9));
        Tools.load(x, 0, 1);
        Tools.moved(due, x, 0, 0);
        return x;
    }

    @Sentence("How many ticks a wafer's visit still takes, plus its limit, "
            + "less the ticks that it was in its chamber since the visit was over")
    static void timeToTheLimit(Due due) {
        int[][] visits = {{1, 1}, {5, 2}, {100, 1}, {1, 100}, {100, 100}};
        for (int[] v : visits) {
            ClusterTool x = inChamber(due, v[0], v[1]);
            for (int stay = v[0] + v[1]; stay > 0; stay--) {
                due.same("stay(0)", x.stay(0), stay);
                x.tick(1);
            }
            due.same("exactly at the limit: stay(0)", x.stay(0), 0);
            due.same("not late: count(2)", x.count(2), 0);
        }
    }

    @Sentence("0 if that is less")
    static void zeroIfThatIsLess(Due due) {
        ClusterTool x = inChamber(due, 5, 2);
        x.tick(7);
        due.same("exactly at the limit: stay(0)", x.stay(0), 0);
        x.tick(1);
        due.same("one more: stay(0)", x.stay(0), 0);
        x.tick(200);
        due.same("many more: stay(0)", x.stay(0), 0);
    }

    @Sentence("NONE when it is in no chamber")
    static void noneInNoChamber(Due due) {
        ClusterTool x = Tools.with(Tools.visit(0, 4, 1, 3), Tools.visit(0, 1, 1, 3), Tools.visit(0, 4, 1, 3));
        x.load(0);
        due.none("in the lock: stay(0)", x.stay(0));
        Tools.step(due, x, 0, 4);
        due.none("in the pass, before a visit: stay(0)", x.stay(0));
        Tools.moved(due, x, 0, 2);
        due.same("stay(0)", x.stay(0), 4);
        x.tick(1);
        Tools.step(due, x, 0, 4);
        due.none("in the pass, after a visit: stay(0)", x.stay(0));
        Tools.step(due, x, 0, 0);
        due.same("stay(0)", x.stay(0), 3);
        Tools.step(due, x, 0, 4);
        Tools.step(due, x, 0, 2);
        Tools.step(due, x, 0, 4);
        due.none("in the pass, on its way home: stay(0)", x.stay(0));
        Tools.step(due, x, 0, 5);
        due.none("finished: stay(0)", x.stay(0));
    }

    @Sentence("or its visit there has no limit")
    static void noneWithoutALimit(Due due) {
        ClusterTool x = inChamber(due, 1, 2);
        due.same("stay(0)", x.stay(0), 3);
        x.tick(1);
        Tools.moved(due, x, 0, 0);
        due.none("the second visit has none: stay(0)", x.stay(0));
        x.tick(100);
        due.none("long over: stay(0)", x.stay(0));
        Tools.moved(due, x, 0, 0);
        due.same("the third has one: stay(0)", x.stay(0), 13);
        x.tick(4 + 9 + 1);
        due.same("late: stay(0)", x.stay(0), 0);
    }

    @Sentence("no time of a visit or limit passes in it")
    static void standsStillWhereItIsDown(Due due) {
        ClusterTool x = inChamber(due, 5, 2);
        x.tick(2);
        x.down(0, true);
        x.tick(200);
        due.same("down in the visit: stay(0)", x.stay(0), 5);
        x.down(0, false);
        x.tick(4);
        due.same("stay(0)", x.stay(0), 1);
        x.down(0, true);
        x.tick(200);
        due.same("down after it: stay(0)", x.stay(0), 1);
        x.down(0, false);
        x.tick(1);
        due.same("stay(0)", x.stay(0), 0);
    }

    @Sentence("or there is no such wafer")
    static void noSuchWafer(Due due) {
        due.none("no wafers: stay(0)", new ClusterTool().stay(0));
        ClusterTool x = inChamber(due, 1, 2);
        for (int wafer : new int[] {-1, 2, 3, 24, 25, 26, Tools.LEAST, Tools.MOST}) {
            due.none("stay(" + wafer + ")", x.stay(wafer));
        }
        due.none("without visits: stay(1)", x.stay(1));
    }
}
