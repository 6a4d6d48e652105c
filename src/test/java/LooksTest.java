/** Promises 11 to 14 and 18: in, place, stage, visited and count. */
public final class LooksTest {
    private static final int NONE = ClusterTool.NONE;
    private static final int[] NO_WAFERS = {-1, 2, 3, 24, 25, 26, Integer.MAX_VALUE, Integer.MIN_VALUE};
    private static final Due DUE = new Due();

    private LooksTest() {
    }

    public static void main(String[] args) {
        oneWaferAllTheWay();
        oneWaferInEachPlace();
        noSuchPlace();
        noSuchWafer();
        noSuchVisit();
        counts();
        noSuchCount();
        longestRun();
        DUE.end();
    }

    private static ClusterTool twoWafers() {
        ClusterTool x = new ClusterTool();
        x.visit(0, 2, 1, 1);
        x.visit(0, 8, 1, 0);
        x.visit(0, 8, 1, 0);
        x.load(0);
        x.load(1);
        return x;
    }

    /** The place and stage of wafer 0, and that no other place has it. */
    private static void isAt(ClusterTool x, int place, int stage) {
        DUE.same("place(0)", x.place(0), place);
        DUE.same("stage(0)", x.stage(0), stage);
        for (int other = 0; other <= 5; other++) {
            DUE.same("in(" + other + ")", x.in(other), other == place && place != 5 ? 0 : NONE);
        }
    }

    private static void oneWaferAllTheWay() {
        ClusterTool x = twoWafers();
        isAt(x, 5, 0);
        int[] places = {1, 4, 3, 3, 4, 5};
        int[] stages = {1, 1, 2, 3, 3, 3};
        for (int i = 0; i < places.length; i++) {
            DUE.same("move(0, " + places[i] + ")", x.move(0, places[i]), 0);
            isAt(x, places[i], stages[i]);
            x.tick(1);
        }
        int[] chambers = {1, 3, 3};
        for (int i = 0; i < 3; i++) {
            DUE.same("visited(0, " + i + ")", x.visited(0, i), chambers[i]);
        }
        DUE.same("place(1)", x.place(1), 5);
        DUE.same("stage(1)", x.stage(1), 0);
    }

    private static void oneWaferInEachPlace() {
        ClusterTool x = new ClusterTool();
        x.visit(0, 15, 1, 0);
        int[] wafersIn = {3, 2, 1, 0, 4};
        for (int wafer = 0; wafer < 5; wafer++) {
            x.load(0);
        }
        int[][] moves = {{0, 4}, {0, 3}, {1, 4}, {1, 2}, {2, 1}, {3, 0}, {4, 4}};
        for (int[] m : moves) {
            DUE.same("move(" + m[0] + ", " + m[1] + ")", x.move(m[0], m[1]), 0);
            x.tick(1);
        }
        for (int place = 0; place < 5; place++) {
            DUE.same("in(" + place + ")", x.in(place), wafersIn[place]);
            DUE.same("place(" + wafersIn[place] + ")", x.place(wafersIn[place]), place);
        }
        DUE.same("all five inside: safe()", x.safe(), true);
    }

    private static void noSuchPlace() {
        ClusterTool x = twoWafers();
        x.move(0, 1);
        int[] wrong = {-1, 5, 6, 8, Integer.MAX_VALUE, Integer.MIN_VALUE};
        for (int place : wrong) {
            DUE.same("in(" + place + ")", x.in(place), NONE);
        }
    }

    private static void noSuchWafer() {
        ClusterTool x = twoWafers();
        for (int wafer : NO_WAFERS) {
            DUE.same("place(" + wafer + ")", x.place(wafer), NONE);
            DUE.same("stage(" + wafer + ")", x.stage(wafer), NONE);
            DUE.same("visited(" + wafer + ", 0)", x.visited(wafer, 0), NONE);
        }
    }

    private static void noSuchVisit() {
        ClusterTool x = twoWafers();
        DUE.same("none begun: visited(0, 0)", x.visited(0, 0), NONE);
        x.move(0, 1);
        DUE.same("visited(0, 0)", x.visited(0, 0), 1);
        int[] wrong = {-1, 1, 2, 3, 4, Integer.MAX_VALUE, Integer.MIN_VALUE};
        for (int i : wrong) {
            DUE.same("visited(0, " + i + ")", x.visited(0, i), NONE);
        }
        DUE.same("no visits: visited(1, 0)", x.visited(1, 0), NONE);
    }

    private static void all(String where, ClusterTool x, int... wants) {
        for (int what = 0; what < wants.length; what++) {
            DUE.same(where + ": count(" + what + ")", x.count(what), wants[what]);
        }
    }

    private static void counts() {
        ClusterTool x = twoWafers();
        all("two in the lock, one without visits", x, 2, 1, 0, 0, 0, 0);
        x.move(0, 1);
        all("one in 1", x, 2, 1, 0, 1, 0, 0);
        x.tick(3);
        all("late", x, 2, 1, 1, 1, 0, 3);
        x.move(0, 4);
        x.move(0, 3);
        all("one in 3", x, 2, 1, 1, 2, 1, 3);
        x.tick(1);
        x.move(0, 3);
        x.tick(1);
        x.move(0, 4);
        all("on its way home", x, 2, 1, 1, 2, 3, 5);
        x.move(0, 5);
        all("finished", x, 2, 2, 1, 3, 3, 5);
        x.load(1);
        all("one more", x, 3, 3, 1, 3, 3, 5);
    }

    private static void noSuchCount() {
        ClusterTool x = twoWafers();
        int[] wrong = {-1, 6, 7, Integer.MAX_VALUE, Integer.MIN_VALUE};
        for (int what : wrong) {
            DUE.same("count(" + what + ")", x.count(what), NONE);
        }
    }

    /** All 512 calls may be ticks, of 200 each. */
    private static void longestRun() {
        ClusterTool x = twoWafers();
        for (int call = 5; call < 510; call++) {
            x.tick(200);
        }
        DUE.same("count(5)", x.count(5), 505 * 200);
        x.go();
        DUE.same("when(0, 0, false)", x.when(0, 0, false), 505 * 200);
    }
}
