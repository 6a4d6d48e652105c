/** Promise 15: when. */
public final class Promise15Test {
    private Promise15Test() {
    }

    public static void main(String[] args) {
        Sentences.test(Promise15Test.class);
    }

    @Sentence("When it began (end = false), or was over (true; NONE as long as it is not), by the clock.")
    static void byTheClock(Due due) {
        ClusterTool x = Tools.with(Tools.visit(0, 1, 2, 0), Tools.visit(0, 4, 3, 0), Tools.visit(0, 4, 1, 0));
        x.load(0);
        x.tick(10);
        Tools.moved(due, x, 0, 0);
        x.tick(4);
        Tools.moved(due, x, 0, 4);
        x.tick(5);
        Tools.moved(due, x, 0, 2);
        x.tick(3);
        Tools.moved(due, x, 0, 2);
        int[] begins = {10, 19, 22};
        int[] ends = {12, 22, Tools.NONE};
        for (int i = 0; i < 3; i++) {
            due.same("when(0, " + i + ", false)", x.when(0, i, false), begins[i]);
            due.same("when(0, " + i + ", true)", x.when(0, i, true), ends[i]);
        }
        x.tick(1);
        due.same("when(0, 2, true)", x.when(0, 2, true), 23);
        Tools.moved(due, x, 0, 4);
        Tools.moved(due, x, 0, 5);
        x.tick(9);
        due.same("finished: when(0, 0, false)", x.when(0, 0, false), 10);
        due.same("finished: when(0, 2, true)", x.when(0, 2, true), 23);
    }

    @Sentence("NONE as long as it is not")
    static void noneAsLongAsItIsNotOver(Due due) {
        for (int time : new int[] {1, 2, 100}) {
            ClusterTool x = Tools.with(Tools.visit(0, 1, time, 0));
            x.load(0);
            x.tick(7);
            Tools.moved(due, x, 0, 0);
            for (int ticks = 0; ticks < time; ticks++) {
                due.none(ticks + " ticks of " + time + ": when(0, 0, true)", x.when(0, 0, true));
                x.tick(1);
            }
            due.same("over: when(0, 0, true)", x.when(0, 0, true), 7 + time);
            x.tick(1);
            x.tick(200);
            due.same("long over: when(0, 0, true)", x.when(0, 0, true), 7 + time);
        }
    }

    @Sentence("NONE as long as it is not")
    static void overInTheMidstOfManyTicks(Due due) {
        ClusterTool x = Tools.with(Tools.visit(0, 1, 3, 1));
        x.load(0);
        Tools.moved(due, x, 0, 0);
        x.tick(200);
        due.same("when(0, 0, true)", x.when(0, 0, true), 3);
    }

    @Sentence("no time of a visit or limit passes in it")
    static void laterByTheTimeThatItWasDown(Due due) {
        ClusterTool x = Tools.with(Tools.visit(0, 1, 3, 1));
        x.load(0);
        Tools.moved(due, x, 0, 0);
        x.tick(2);
        x.down(0, true);
        x.tick(50);
        due.none("down: when(0, 0, true)", x.when(0, 0, true));
        x.down(0, false);
        due.none("up: when(0, 0, true)", x.when(0, 0, true));
        x.tick(10);
        due.same("when(0, 0, true)", x.when(0, 0, true), 53);
        x.down(0, true);
        due.same("down again: when(0, 0, true)", x.when(0, 0, true), 53);
    }

    @Sentence("NONE also when there is no such visit.")
    static void noSuchVisit(Due due) {
        ClusterTool x = Tools.between(due, 0, 1);
        x.load(0);
        int[][] wrong = {{0, 1}, {0, 2}, {0, 3}, {0, 4}, {0, -1}, {1, 0}, {2, 0}, {-1, 0}, {24, 0}, {25, 0}, {-1, -1},
            {0, Tools.LEAST}, {0, Tools.MOST}, {Tools.LEAST, 0}, {Tools.MOST, 0}};
        for (int[] w : wrong) {
            due.none("when(" + w[0] + ", " + w[1] + ", false)", x.when(w[0], w[1], false));
            due.none("when(" + w[0] + ", " + w[1] + ", true)", x.when(w[0], w[1], true));
        }
        Tools.step(due, x, 0, 0);
        due.none("all of its visits are over: when(0, 2, false)", x.when(0, 2, false));
        due.none("all of its visits are over: when(0, 2, true)", x.when(0, 2, true));
    }
}
