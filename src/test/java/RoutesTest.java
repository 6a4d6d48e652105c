/** Promises 1 to 3: a new object, visit and load. */
public final class RoutesTest {
    private static final int NONE = ClusterTool.NONE;
    private static final Due DUE = new Due();

    private RoutesTest() {
    }

    public static void main(String[] args) {
        newObjectIsEmpty();
        newObjectsDoNotShare();
        visitsAreCounted();
        visitsOutOfRangeAreRefused();
        refusedVisitsChangeNothing();
        noVisitWhenThereAreWafers();
        visitsStayAsTheyWereGiven();
        wafersAreNumbered();
        twentySixthWaferIsRefused();
        wafersMayComeAtAnyTime();
        DUE.end();
    }

    private static void newObjectIsEmpty() {
        ClusterTool x = new ClusterTool();
        for (int what = 0; what <= 5; what++) {
            DUE.same("new: count(" + what + ")", x.count(what), 0);
        }
        for (int place = 0; place <= 5; place++) {
            DUE.same("new: in(" + place + ")", x.in(place), NONE);
        }
        for (int chamber = 0; chamber < 4; chamber++) {
            DUE.same("new: down(" + chamber + ", false)", x.down(chamber, false), false);
        }
        DUE.same("new: next()", x.next(), NONE);
        DUE.same("new: go()", x.go(), NONE);
        DUE.same("new: safe()", x.safe(), true);
        DUE.same("new: place(0)", x.place(0), NONE);
        for (int route = 0; route < 2; route++) {
            DUE.same("new: load(" + route + ")", x.load(route), route);
            DUE.same("no visits, so finished", x.count(1), route + 1);
        }
    }

    private static void newObjectsDoNotShare() {
        ClusterTool x = new ClusterTool();
        x.visit(0, 1, 1, 1);
        x.load(0);
        x.move(0, 0);
        x.down(1, true);
        x.tick(7);
        newObjectIsEmpty();
        DUE.same("first object: place(0)", x.place(0), 0);
    }

    private static void visitsAreCounted() {
        ClusterTool x = new ClusterTool();
        DUE.same("visit(0, 1, 1, 0)", x.visit(0, 1, 1, 0), 1);
        DUE.same("visit(1, 15, 100, 100)", x.visit(1, 15, 100, 100), 1);
        DUE.same("visit(0, 8, 100, 1)", x.visit(0, 8, 100, 1), 2);
        DUE.same("visit(0, 8, 1, 0)", x.visit(0, 8, 1, 0), 3);
        DUE.same("fourth visit(0, 1, 1, 0)", x.visit(0, 1, 1, 0), NONE);
        DUE.same("visit(1, 2, 3, 4)", x.visit(1, 2, 3, 4), 2);
        DUE.same("visit(1, 2, 3, 4)", x.visit(1, 2, 3, 4), 3);
        DUE.same("fourth visit(1, 2, 3, 4)", x.visit(1, 2, 3, 4), NONE);
    }

    private static void visitsOutOfRangeAreRefused() {
        ClusterTool x = new ClusterTool();
        int[][] wrong = {
            {-1, 1, 1, 0}, {2, 1, 1, 0}, {Integer.MAX_VALUE, 1, 1, 0}, {Integer.MIN_VALUE, 1, 1, 0},
            {0, 0, 1, 0}, {0, 16, 1, 0}, {0, -1, 1, 0}, {0, 17, 1, 0}, {0, Integer.MIN_VALUE, 1, 0},
            {0, 1, 0, 0}, {0, 1, 101, 0}, {0, 1, -1, 0}, {0, 1, Integer.MAX_VALUE, 0},
            {0, 1, 1, -1}, {0, 1, 1, 101}, {0, 1, 1, Integer.MIN_VALUE}, {0, 1, 1, Integer.MAX_VALUE},
        };
        for (int[] v : wrong) {
            DUE.same("visit(" + v[0] + ", " + v[1] + ", " + v[2] + ", " + v[3] + ")",
                    x.visit(v[0], v[1], v[2], v[3]), NONE);
        }
        DUE.same("the first that is not refused", x.visit(0, 1, 1, 0), 1);
    }

    private static void refusedVisitsChangeNothing() {
        ClusterTool x = new ClusterTool();
        x.visit(0, 1, 1, 0);
        x.visit(0, 2, 1, 0);
        x.visit(0, 1, 1, 0);
        x.visit(0, 8, 9, 9);
        x.load(0);
        int[] chambers = {0, 1, 0, 5};
        for (int to : chambers) {
            DUE.same("move(0, " + to + ")", x.move(0, to), 0);
            x.tick(1);
        }
        DUE.same("three visits and home: count(1)", x.count(1), 1);
        DUE.same("stage(0)", x.stage(0), 3);
    }

    private static void noVisitWhenThereAreWafers() {
        ClusterTool x = new ClusterTool();
        x.visit(1, 1, 1, 0);
        x.load(1);
        DUE.same("with wafers: visit(0, 1, 1, 0)", x.visit(0, 1, 1, 0), NONE);
        DUE.same("with wafers: visit(1, 1, 1, 0)", x.visit(1, 1, 1, 0), NONE);
        x.go();
        x.tick(1);
        x.go();
        DUE.same("all finished", x.count(1), 1);
        DUE.same("with a finished wafer: visit(0, 1, 1, 0)", x.visit(0, 1, 1, 0), NONE);
        x.load(0);
        DUE.same("route 0 still has no visits: count(1)", x.count(1), 2);
    }

    private static void visitsStayAsTheyWereGiven() {
        ClusterTool x = new ClusterTool();
        x.visit(0, 1, 100, 100);
        x.visit(1, 2, 7, 0);
        x.load(0);
        x.load(1);
        x.move(0, 0);
        x.tick(1);
        x.move(1, 1);
        DUE.same("time of route 0: left(0)", x.left(0), 99);
        DUE.same("limit of route 0: stay(0)", x.stay(0), 199);
        DUE.same("time of route 1: left(1)", x.left(1), 7);
        DUE.same("no limit of route 1: stay(1)", x.stay(1), NONE);
    }

    private static void wafersAreNumbered() {
        ClusterTool x = new ClusterTool();
        x.visit(0, 1, 1, 0);
        DUE.same("load(0)", x.load(0), 0);
        DUE.same("load(-1)", x.load(-1), NONE);
        DUE.same("load(2)", x.load(2), NONE);
        DUE.same("load(most)", x.load(Integer.MAX_VALUE), NONE);
        DUE.same("load(1)", x.load(1), 1);
        DUE.same("load(0)", x.load(0), 2);
        DUE.same("count(0)", x.count(0), 3);
        DUE.same("count(1)", x.count(1), 1);
        DUE.same("place(2)", x.place(2), 5);
        DUE.same("stage(2)", x.stage(2), 0);
        DUE.same("left(2)", x.left(2), 0);
        DUE.same("in(5)", x.in(5), NONE);
    }

    private static void twentySixthWaferIsRefused() {
        ClusterTool x = new ClusterTool();
        x.visit(0, 1, 1, 0);
        for (int wafer = 0; wafer < 25; wafer++) {
            DUE.same("load", x.load(wafer % 2), wafer);
        }
        DUE.same("twenty-sixth load(0)", x.load(0), NONE);
        DUE.same("twenty-sixth load(1)", x.load(1), NONE);
        DUE.same("count(0)", x.count(0), 25);
        DUE.same("place(24)", x.place(24), 5);
        DUE.same("place(25)", x.place(25), NONE);
        DUE.same("move(24, 0)", x.move(24, 0), 0);
        x.tick(1);
        x.move(24, 5);
        DUE.same("finished ones count: load(0)", x.load(0), NONE);
    }

    private static void wafersMayComeAtAnyTime() {
        ClusterTool x = new ClusterTool();
        x.visit(0, 3, 2, 0);
        x.load(0);
        x.go();
        x.tick(1);
        DUE.same("later: load(0)", x.load(0), 1);
        DUE.same("later: move(1, 1)", x.move(1, 1), 0);
        DUE.same("later: when(1, 0, false)", x.when(1, 0, false), 1);
    }
}
