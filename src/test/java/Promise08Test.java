/** Promise 8: tick. */
public final class Promise08Test {
    private Promise08Test() {
    }

    public static void main(String[] args) {
        Sentences.test(Promise08Test.class);
    }

    /** A wafer that has just come into chamber 0, with another one in the lock and a visit more for both. */
    private static ClusterTool inChamber(Due due, int time, int limit) {
        ClusterTool x = Tools.with(Tools.visit(0, 3, time, limit), Tools.visit(0, 3, 2, 3));
        Tools.load(x, 0, 0);
        Tools.moved(due, x, 0, 0);
        return x;
    }

    @Sentence("NONE, refused: n is not 0 .. 200.")
    static void outOfBounds(Due due) {
        ClusterTool x = inChamber(due, 5, 2);
        for (int n : new int[] {-1, 201, -200, 202, 1000, Tools.LEAST, Tools.MOST}) {
            due.none("tick(" + n + ")", x.tick(n));
            due.same("the clock: count(5)", x.count(5), 0);
            due.same("left(0)", x.left(0), 5);
        }
    }

    @Sentence("NONE, refused: n is not 0 .. 200.")
    static void leastAndMost(Due due) {
        ClusterTool x = inChamber(due, 100, 99);
        due.same("the least: tick(0)", x.tick(0), 0);
        due.same("count(5)", x.count(5), 0);
        due.same("left(0)", x.left(0), 100);
        due.same("stay(0)", x.stay(0), 199);
        due.same("the most: tick(200)", x.tick(200), 1);
        due.same("count(5)", x.count(5), 200);
        due.same("again: tick(200)", x.tick(200), 0);
        due.same("count(5)", x.count(5), 400);
        due.same("one less: tick(199)", x.tick(199), 0);
        due.same("count(5)", x.count(5), 599);
    }

    @Sentence("n ticks go by: how many wafers became late.")
    static void asManyAtOnceAsOneByOne(Due due) {
        ClusterTool atOnce = inChamber(due, 7, 4);
        ClusterTool oneByOne = inChamber(due, 7, 4);
        int late = 0;
        for (int i = 0; i < 30; i++) {
            late += oneByOne.tick(1);
        }
        due.same("tick(30)", atOnce.tick(30), late);
        due.same("after it", Twins.picture(atOnce), Twins.picture(oneByOne));
    }

    @Sentence("n ticks go by: how many wafers became late.")
    static void fourAtOnce(Due due) {
        ClusterTool x = Tools.with(Tools.visit(0, 15, 1, 20));
        Tools.load(x, 0, 0, 0, 0, 0);
        Tools.bring(due, x, 0, 2);
        Tools.bring(due, x, 1, 3);
        Tools.step(due, x, 2, 0);
        Tools.step(due, x, 3, 1);
        due.same("none yet: count(2)", x.count(2), 0);
        due.same("tick(200)", x.tick(200), 4);
        due.same("count(2)", x.count(2), 4);
        due.same("they are late already: tick(200)", x.tick(200), 0);
        due.same("count(2)", x.count(2), 4);
    }

    @Sentence("n ticks go by: how many wafers became late.")
    static void oneAfterTheOther(Due due) {
        ClusterTool x = inChamber(due, 4, 3);
        x.tick(1);
        Tools.moved(due, x, 1, 1);
        due.same("tick(6)", x.tick(6), 0);
        due.same("the first: tick(1)", x.tick(1), 1);
        due.same("the second: tick(1)", x.tick(1), 1);
        due.same("no more: tick(1)", x.tick(1), 0);
    }

    @Sentence("takes its time of ticks; then it is over, and the wafer is READY")
    static void overAfterItsTime(Due due) {
        for (int time : new int[] {1, 2, 50, 99, 100}) {
            ClusterTool x = inChamber(due, time, 0);
            x.tick(time - 1);
            due.same("a tick before: left(0)", x.left(0), 1);
            due.same("a tick before: may(0, 1)", x.may(0, 1), Tools.UNREADY);
            due.none("a tick before: when(0, 0, true)", x.when(0, 0, true));
            x.tick(1);
            due.same("left(0)", x.left(0), 0);
            due.same("may(0, 1)", x.may(0, 1), 0);
            due.same("when(0, 0, true)", x.when(0, 0, true), time);
        }
    }

    @Sentence("it has been in the chamber for more ticks than that since the visit was over")
    static void exactlyTheLimitAndOneMore(Due due) {
        int[][] visits = {{1, 1}, {5, 2}, {1, 99}, {100, 1}, {99, 100}, {100, 100}};
        for (int[] v : visits) {
            ClusterTool x = inChamber(due, v[0], v[1]);
            due.same("the time: tick(" + v[0] + ")", x.tick(v[0]), 0);
            due.same("exactly the limit: tick(" + v[1] + ")", x.tick(v[1]), 0);
            due.same("count(2)", x.count(2), 0);
            due.same("one more: tick(1)", x.tick(1), 1);
            due.same("count(2)", x.count(2), 1);
            int both = v[0] + v[1];
            due.same("both at once: tick(" + both + ")", inChamber(due, v[0], v[1]).tick(both), 0);
            if (both < 200) {
                due.same("one more at once", inChamber(due, v[0], v[1]).tick(both + 1), 1);
            }
        }
    }

    @Sentence("it is LATE from then on, for ever")
    static void lateForEver(Due due) {
        ClusterTool x = inChamber(due, 1, 1);
        due.same("tick(3)", x.tick(3), 1);
        due.same("late already: tick(3)", x.tick(3), 0);
        Tools.moved(due, x, 0, 1);
        due.same("in another chamber: count(2)", x.count(2), 1);
        due.same("in a visit: tick(1)", x.tick(1), 0);
        due.same("in a visit: count(2)", x.count(2), 1);
        due.same("too long there, too: tick(5)", x.tick(5), 0);
        due.same("count(2)", x.count(2), 1);
        Tools.moved(due, x, 0, 5);
        due.same("in the lock: count(2)", x.count(2), 1);
        due.same("tick(200)", x.tick(200), 0);
        due.same("count(2)", x.count(2), 1);
    }

    @Sentence("a LIMIT (0 for none)")
    static void neverLateWithoutALimit(Due due) {
        ClusterTool x = inChamber(due, 1, 0);
        for (int i = 0; i < 5; i++) {
            due.same("tick(200)", x.tick(200), 0);
        }
        due.same("count(2)", x.count(2), 0);
        Tools.moved(due, x, 0, 0);
        due.same("the next visit has one: tick(6)", x.tick(6), 1);
    }

    @Sentence("When its visit has a limit")
    static void eachVisitHasItsOwnLimit(Due due) {
        ClusterTool x = inChamber(due, 2, 4);
        due.same("tick(6)", x.tick(6), 0);
        due.same("stay(0)", x.stay(0), 0);
        Tools.moved(due, x, 0, 0);
        due.same("a new visit in the same chamber: stay(0)", x.stay(0), 5);
        due.same("tick(5)", x.tick(5), 0);
        due.same("tick(1)", x.tick(1), 1);
    }

    @Sentence("it has been in the chamber for more ticks")
    static void noLimitInThePassAndTheLock(Due due) {
        ClusterTool x = Tools.with(Tools.visit(0, 1, 1, 1), Tools.visit(0, 4, 1, 1));
        x.load(0);
        due.same("in the lock: tick(200)", x.tick(200), 0);
        Tools.moved(due, x, 0, 0);
        due.same("exactly the limit: tick(2)", x.tick(2), 0);
        Tools.moved(due, x, 0, 4);
        due.same("in the pass: tick(200)", x.tick(200), 0);
        Tools.moved(due, x, 0, 2);
        due.same("exactly the limit: tick(2)", x.tick(2), 0);
        Tools.moved(due, x, 0, 4);
        due.same("in the pass: tick(200)", x.tick(200), 0);
        Tools.moved(due, x, 0, 5);
        due.same("finished: tick(200)", x.tick(200), 0);
        due.same("count(2)", x.count(2), 0);
    }

    @Sentence("A robot makes at most one move until a tick goes by.")
    static void bothRobotsMayMoveAgain(Due due) {
        for (int n : new int[] {1, 2, 200}) {
            ClusterTool x = Tools.routes(Tools.masks(12, 12), Tools.masks());
            Tools.load(x, 0, 0);
            Tools.moved(due, x, 0, 4);
            Tools.moved(due, x, 0, 2);
            due.same("front: may(1, 4)", x.may(1, 4), Tools.BUSY);
            x.tick(0);
            due.same("no tick: may(1, 4)", x.may(1, 4), Tools.BUSY);
            x.tick(n);
            due.same("tick(" + n + "): may(1, 4)", x.may(1, 4), 0);
            due.same("tick(" + n + "): may(0, 3)", x.may(0, 3), 0);
        }
    }

    @Sentence("What answers NONE or false, or why a move is not made, changes nothing.")
    static void refusedTicksChangeNothing(Due due) {
        Twins.same(due, Promise08Test::someMoves, x -> {
            for (int n : new int[] {-1, 201, Tools.LEAST, Tools.MOST}) {
                due.none("tick(" + n + ")", x.tick(n));
            }
        });
        Twins.same(due, Promise08Test::someMoves, x -> due.same("no tick: tick(0)", x.tick(0), 0));
    }

    private static void someMoves(ClusterTool x) {
        x.visit(0, 1, 2, 1);
        x.visit(0, 14, 3, 1);
        Tools.load(x, 0, 0);
        x.move(0, 0);
        x.tick(3);
        x.move(0, 4);
        x.move(0, 2);
        x.down(3, true);
    }
}
