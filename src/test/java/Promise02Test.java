/** Promise 2: visit. */
public final class Promise02Test {
    private Promise02Test() {
    }

    public static void main(String[] args) {
        Sentences.test(Promise02Test.class);
    }

    private static void refused(Due due, ClusterTool x, int route, int mask, int time, int limit) {
        due.none("visit(" + route + ", " + mask + ", " + time + ", " + limit + ")",
                x.visit(route, mask, time, limit));
    }

    @Sentence("A route gets one more visit: how many it has then.")
    static void oneMoreVisit(Due due) {
        ClusterTool x = new ClusterTool();
        for (int count = 1; count <= 3; count++) {
            due.same("visit(0, 1, 1, 0)", x.visit(0, 1, 1, 0), count);
            due.same("visit(1, 2, 3, 4)", x.visit(1, 2, 3, 4), count);
        }
    }

    @Sentence("NONE, refused: no such route")
    static void noSuchRoute(Due due) {
        ClusterTool x = new ClusterTool();
        for (int route : new int[] {-1, 2, 3, -2, Tools.LEAST, Tools.MOST}) {
            refused(due, x, route, 1, 1, 0);
        }
        due.same("visit(0, 1, 1, 0)", x.visit(0, 1, 1, 0), 1);
        due.same("visit(1, 1, 1, 0)", x.visit(1, 1, 1, 0), 1);
    }

    @Sentence("it has 3")
    static void itHasThree(Due due) {
        for (int route = 0; route < 2; route++) {
            ClusterTool x = new ClusterTool();
            for (int count = 1; count <= 3; count++) {
                due.same("visit(" + route + ", 1, 1, 0)", x.visit(route, 1, 1, 0), count);
            }
            refused(due, x, route, 1, 1, 0);
            refused(due, x, route, 15, 100, 100);
            due.same("the other route has none yet", x.visit(1 - route, 1, 1, 0), 1);
        }
    }

    @Sentence("A ROUTE, 0 or 1, has up to 3 VISITS")
    static void upToThreeVisits(Due due) {
        for (int visits = 0; visits <= 3; visits++) {
            for (int route = 0; route < 2; route++) {
                ClusterTool x = new ClusterTool();
                for (int i = 0; i < visits; i++) {
                    x.visit(route, 1 + i % 2, 1, 0);
                }
                x.load(route);
                for (int i = 0; i < visits; i++) {
                    Tools.step(due, x, 0, i % 2);
                }
                due.same("it has not come back: count(1)", x.count(1), visits == 0 ? 1 : 0);
                due.same("stage(0)", x.stage(0), visits);
                due.same("home: move(0, 5)", x.move(0, 5), visits == 0 ? Tools.UNREADY : 0);
            }
        }
    }

    @Sentence("mask is not 1 .. 15")
    static void maskOutOfBounds(Due due) {
        ClusterTool x = new ClusterTool();
        for (int mask : new int[] {0, 16, -1, 17, 31, -15, Tools.LEAST, Tools.MOST}) {
            refused(due, x, 0, mask, 1, 0);
        }
        due.same("the least mask", x.visit(0, 1, 1, 0), 1);
        due.same("the greatest mask", x.visit(0, 15, 1, 0), 2);
        refused(due, x, 0, 0, 1, 0);
        refused(due, x, 0, 16, 1, 0);
    }

    @Sentence("time not 1 .. 100")
    static void timeOutOfBounds(Due due) {
        ClusterTool x = new ClusterTool();
        for (int time : new int[] {0, 101, -1, -100, Tools.LEAST, Tools.MOST}) {
            refused(due, x, 0, 1, time, 0);
        }
        due.same("the least time", x.visit(0, 1, 1, 0), 1);
        due.same("the greatest time", x.visit(0, 1, 100, 0), 2);
        refused(due, x, 0, 1, 0, 0);
        refused(due, x, 0, 1, 101, 0);
    }

    @Sentence("limit not 0 .. 100")
    static void limitOutOfBounds(Due due) {
        ClusterTool x = new ClusterTool();
        for (int limit : new int[] {-1, 101, -100, Tools.LEAST, Tools.MOST}) {
            refused(due, x, 0, 1, 1, limit);
        }
        due.same("the least limit", x.visit(0, 1, 1, 0), 1);
        due.same("the greatest limit", x.visit(0, 1, 1, 100), 2);
        refused(due, x, 0, 1, 1, -1);
        refused(due, x, 0, 1, 1, 101);
    }

    @Sentence("or there are wafers.")
    static void thereAreWafers(Due due) {
        ClusterTool x = new ClusterTool();
        x.visit(1, 1, 1, 0);
        x.load(1);
        wafersRefuse(due, x);
        Tools.step(due, x, 0, 0);
        wafersRefuse(due, x);
        Tools.step(due, x, 0, 5);
        due.same("it is finished: count(1)", x.count(1), 1);
        wafersRefuse(due, x);
        ClusterTool y = new ClusterTool();
        y.load(0);
        wafersRefuse(due, y);
        ClusterTool z = new ClusterTool();
        z.load(2);
        due.same("no wafer came: visit(0, 1, 1, 0)", z.visit(0, 1, 1, 0), 1);
    }

    private static void wafersRefuse(Due due, ClusterTool x) {
        refused(due, x, 0, 1, 1, 0);
        refused(due, x, 1, 1, 1, 0);
    }

    @Sentence("a visit has a MASK (bit c: it may be made in chamber c), a TIME and a LIMIT (0 for none)")
    static void visitsAreAsTheyWereGiven(Due due) {
        int[][] visits = {{1, 1, 0}, {2, 100, 100}, {3, 1, 100}, {1, 100, 1}, {2, 99, 99}, {15, 2, 1}};
        for (int[] v : visits) {
            for (int route = 0; route < 2; route++) {
                ClusterTool x = Tools.with(Tools.visit(route, v[0], v[1], v[2]));
                x.load(route);
                for (int chamber = 0; chamber < 2; chamber++) {
                    int want = (v[0] >> chamber & 1) == 1 ? 0 : Tools.ASTRAY;
                    due.same("mask " + v[0] + ": may(0, " + chamber + ")", x.may(0, chamber), want);
                }
                Tools.moved(due, x, 0, v[0] == 2 ? 1 : 0);
                due.same("the time: left(0)", x.left(0), v[1]);
                due.same("with the limit: stay(0)", x.stay(0), v[2] == 0 ? Tools.NONE : v[1] + v[2]);
            }
        }
    }

    @Sentence("What answers NONE or false, or why a move is not made, changes nothing.")
    static void refusedVisitsChangeNothing(Due due) {
        for (int visits = 0; visits <= 2; visits++) {
            int given = visits;
            Twins.same(due, x -> someVisits(x, given), Promise02Test::wrongVisits, x -> Tools.load(x, 0, 1, 0));
        }
        Twins.same(due, x -> someVisits(x, 3), Promise02Test::moreVisits, x -> Tools.load(x, 0, 1, 0));
        Twins.same(due, Promise02Test::visitsAndWafers, Promise02Test::moreVisits);
    }

    private static void someVisits(ClusterTool x, int visits) {
        for (int i = 0; i < visits; i++) {
            x.visit(0, 1 + i, 2 + i, i);
            x.visit(1, 4 + i, 3, 2 - i);
        }
    }

    private static void visitsAndWafers(ClusterTool x) {
        someVisits(x, 2);
        Tools.load(x, 0, 1, 0);
        x.go();
    }

    private static void wrongVisits(ClusterTool x) {
        int[][] wrong = {{-1, 8, 9, 9}, {2, 8, 9, 9}, {0, 0, 9, 9}, {0, 16, 9, 9}, {0, 8, 0, 9}, {0, 8, 101, 9},
            {0, 8, 9, -1}, {0, 8, 9, 101}, {1, 0, 9, 9}, {1, 16, 9, 9}, {1, 8, 0, 9}, {1, 8, 101, 9},
            {1, 8, 9, -1}, {1, 8, 9, 101}};
        for (int[] v : wrong) {
            x.visit(v[0], v[1], v[2], v[3]);
        }
    }

    private static void moreVisits(ClusterTool x) {
        x.visit(0, 8, 9, 9);
        x.visit(1, 8, 9, 9);
    }
}
