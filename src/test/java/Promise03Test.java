/** Promise 3: load. */
public final class Promise03Test {
    private Promise03Test() {
    }

    public static void main(String[] args) {
        Sentences.test(Promise03Test.class);
    }

    @Sentence("WAFERS are numbered from 0 as they come")
    static void numberedAsTheyCome(Due due) {
        ClusterTool x = Tools.routes(Tools.masks(3), Tools.masks(3));
        for (int wafer = 0; wafer < 6; wafer++) {
            due.same("load(" + wafer % 2 + ")", x.load(wafer % 2), wafer);
            x.go();
            x.tick(1);
        }
        due.same("count(0)", x.count(0), 6);
    }

    @Sentence("A wafer comes into the lock: its number.")
    static void comesIntoTheLock(Due due) {
        ClusterTool x = Tools.routes(Tools.masks(3), Tools.masks(1));
        for (int wafer = 0; wafer < 3; wafer++) {
            x.load(wafer % 2);
            due.same("place(" + wafer + ")", x.place(wafer), 5);
            due.same("stage(" + wafer + ")", x.stage(wafer), 0);
            due.same("left(" + wafer + ")", x.left(wafer), 0);
        }
        due.none("in(5)", x.in(5));
        due.same("count(1)", x.count(1), 0);
    }

    @Sentence("NONE, refused: no such route")
    static void noSuchRoute(Due due) {
        ClusterTool x = Tools.routes(Tools.masks(1), Tools.masks(2));
        for (int route : new int[] {-1, 2, 3, -2, Tools.LEAST, Tools.MOST}) {
            due.none("load(" + route + ")", x.load(route));
            due.same("count(0)", x.count(0), 0);
        }
        due.same("no number was used up: load(1)", x.load(1), 0);
    }

    @Sentence("or there are 25.")
    static void thereAreTwentyFive(Due due) {
        ClusterTool x = Tools.inLock(1);
        for (int wafer = 1; wafer < 25; wafer++) {
            due.same("load(" + wafer % 2 + ")", x.load(wafer % 2), wafer);
        }
        due.same("count(0)", x.count(0), 25);
        for (int route : new int[] {0, 1, 2, -1}) {
            due.none("the twenty-sixth: load(" + route + ")", x.load(route));
        }
        due.same("count(0)", x.count(0), 25);
        due.same("place(24)", x.place(24), 5);
        due.none("place(25)", x.place(25));
        Tools.step(due, x, 24, 0);
        due.none("one less in the lock: load(0)", x.load(0));
        Tools.step(due, x, 24, 5);
        due.none("one is finished: load(0)", x.load(0));
    }

    @Sentence("at most 25")
    static void twentyFiveAtMostOfEachRoute(Due due) {
        for (int route = 0; route < 2; route++) {
            ClusterTool x = Tools.routes(Tools.masks(15), Tools.masks());
            for (int wafer = 0; wafer < 25; wafer++) {
                due.same("load(" + route + ")", x.load(route), wafer);
            }
            due.none("the twenty-sixth: load(" + route + ")", x.load(route));
            due.none("the twenty-sixth: load(" + (1 - route) + ")", x.load(1 - route));
        }
    }

    @Sentence("FINISHED when it has come back to the lock (or has a route without visits): then it moves no more.")
    static void finishedWithoutVisits(Due due) {
        ClusterTool x = Tools.routes(Tools.masks(1), Tools.masks());
        Tools.load(x, 1, 0);
        due.same("without visits: count(1)", x.count(1), 1);
        int unready = Tools.UNREADY;
        Tools.ways(due, "without visits", x, 0, unready, unready, unready, unready, unready, unready);
        due.same("next() is the other's", x.next(), 8);
        Tools.step(due, x, 1, 0);
        due.same("on its way: count(1)", x.count(1), 1);
        Tools.step(due, x, 1, 5);
        due.same("come back: count(1)", x.count(1), 2);
        Tools.ways(due, "come back", x, 1, unready, unready, unready, unready, unready, unready);
        due.none("next()", x.next());
    }

    @Sentence("What answers NONE or false, or why a move is not made, changes nothing.")
    static void refusedLoadsChangeNothing(Due due) {
        Twins.same(due, Promise03Test::someWafers, x -> Tools.load(x, -1, 2, Tools.LEAST, Tools.MOST));
        ClusterTool full = Tools.inLock(1);
        for (int wafer = 1; wafer < 25; wafer++) {
            full.load(0);
        }
        Tools.moved(due, full, 3, 0);
        full.load(0);
        full.load(1);
        for (int wafer = 0; wafer < 25; wafer++) {
            due.same("place(" + wafer + ")", full.place(wafer), wafer == 3 ? 0 : 5);
            due.same("stage(" + wafer + ")", full.stage(wafer), wafer == 3 ? 1 : 0);
        }
        due.same("its chamber is taken: may(4, 0)", full.may(4, 0), Tools.TAKEN);
    }

    private static void someWafers(ClusterTool x) {
        x.visit(0, 3, 2, 1);
        x.visit(1, 12, 3, 0);
        Tools.load(x, 0, 1, 0);
        x.go();
    }
}
