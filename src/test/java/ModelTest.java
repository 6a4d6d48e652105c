/** Runs of as many calls as an object is used for, the same at every start, against the plain model. */
public final class ModelTest {
    private static final int RUNS = 4000;
    private static final int CALLS = 512;

    private final Due due = new Due("ModelTest: ");
    private ClusterTool tool;
    private PlainModel model;
    private long seed;
    private String where;

    private ModelTest() {
    }

    public static void main(String[] args) {
        ModelTest test = new ModelTest();
        for (int run = 0; run < RUNS && !test.due.isWrong(); run++) {
            test.run(run);
        }
        test.due.end();
    }

    private int pick(int below) {
        seed = seed * 6364136223846793005L + 1442695040888963407L;
        return (int) ((seed >>> 33) % below);
    }

    private void run(int number) {
        seed = number;
        tool = new ClusterTool();
        model = new PlainModel();
        int visits = pick(7);
        boolean narrow = pick(3) > 0;
        for (int call = 1; call <= CALLS && !due.isWrong(); call++) {
            where = "run " + number + ", call " + call + ": ";
            if (call <= visits) {
                visit(narrow);
            } else if (pick(5) < 3) {
                change();
            } else {
                look();
            }
        }
    }

    /** Masks with one chamber or two bring the tool to where moves are unsafe. */
    private void visit(boolean narrow) {
        int route = pick(9) == 0 ? pick(4) - 1 : pick(2);
        int mask = narrow ? 1 << pick(4) | 1 << pick(4) : pick(18) - 1;
        int time = pick(8) == 0 ? pick(104) - 1 : 1 + pick(6);
        int limit = pick(8) == 0 ? pick(104) - 1 : pick(5);
        due.same(where + "visit(" + route + ", " + mask + ", " + time + ", " + limit + ")",
                tool.visit(route, mask, time, limit), model.visit(route, mask, time, limit));
    }

    private void change() {
        int kind = pick(20);
        if (kind < 3) {
            int route = pick(9) == 0 ? pick(5) - 2 : pick(2);
            due.same(where + "load(" + route + ")", tool.load(route), model.load(route));
        } else if (kind < 6) {
            due.same(where + "go()", tool.go(), model.go());
        } else if (kind < 13) {
            int wafer = someWafer();
            int place = pick(12) == 0 ? pick(10) - 2 : pick(6);
            due.same(where + "move(" + wafer + ", " + place + ")",
                    tool.move(wafer, place), model.move(wafer, place));
        } else if (kind < 18) {
            int n = pick(15) == 0 ? pick(206) - 2 : pick(4);
            due.same(where + "tick(" + n + ")", tool.tick(n), model.tick(n));
        } else if (kind < 19) {
            int chamber = pick(9) == 0 ? pick(8) - 2 : pick(4);
            boolean is = pick(3) == 0;
            due.same(where + "down(" + chamber + ", " + is + ")", tool.down(chamber, is), model.down(chamber, is));
        } else {
            visit(false);
        }
    }

    /** Mostly one that is in a chamber or the pass, for those in the lock are many. */
    private int someWafer() {
        int inside = model.in(pick(5));
        return inside >= 0 && pick(3) > 0 ? inside : pick(model.count(0) + 3) - 1;
    }

    private void look() {
        int wafer = someWafer();
        int place = pick(8) - 1;
        int kind = pick(9);
        if (kind < 2) {
            due.same(where + "next()", tool.next(), model.next());
        } else if (kind < 3) {
            due.same(where + "safe()", tool.safe(), model.safe());
        } else if (kind < 5) {
            due.same(where + "may(" + wafer + ", " + place + ")", tool.may(wafer, place), model.may(wafer, place));
        } else if (kind < 6) {
            due.same(where + "in(" + place + ")", tool.in(place), model.in(place));
        } else if (kind < 7) {
            due.same(where + "count(" + place + ")", tool.count(place), model.count(place));
        } else {
            lookAt(wafer, pick(5) - 1);
        }
    }

    private void lookAt(int wafer, int i) {
        String of = "(" + wafer + ")";
        String ofVisit = "(" + wafer + ", " + i;
        switch (pick(7)) {
            case 0 -> due.same(where + "place" + of, tool.place(wafer), model.place(wafer));
            case 1 -> due.same(where + "stage" + of, tool.stage(wafer), model.stage(wafer));
            case 2 -> due.same(where + "left" + of, tool.left(wafer), model.left(wafer));
            case 3 -> due.same(where + "stay" + of, tool.stay(wafer), model.stay(wafer));
            case 4 -> due.same(where + "visited" + ofVisit + ")", tool.visited(wafer, i), model.visited(wafer, i));
            case 5 -> due.same(where + "when" + ofVisit + ", false)",
                    tool.when(wafer, i, false), model.when(wafer, i, false));
            default -> due.same(where + "when" + ofVisit + ", true)",
                    tool.when(wafer, i, true), model.when(wafer, i, true));
        }
    }
}
