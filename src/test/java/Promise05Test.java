/** Promise 5: move. */
public final class Promise05Test {
    private Promise05Test() {
    }

    public static void main(String[] args) {
        Sentences.test(Promise05Test.class);
    }

    @Sentence("It is moved if it can be")
    static void isMoved(Due due) {
        ClusterTool x = Tools.between(due, 0, 4);
        int[] places = {4, 2, 4, 5};
        for (int place : places) {
            int from = x.place(0);
            Tools.moved(due, x, 0, place);
            due.same("place(0)", x.place(0), place);
            due.same("in(" + place + ")", x.in(place), place == 5 ? Tools.NONE : 0);
            due.none("where it was: in(" + from + ")", x.in(from));
            x.tick(1);
        }
        due.same("stage(0)", x.stage(0), 2);
        due.same("count(1)", x.count(1), 1);
    }

    /** Each row: the chamber of the first visit, the mask of the second, the place that is gone to next. */
    @Sentence("by the robot that reaches both places")
    static void byTheRobotThatReachesBoth(Due due) {
        int[][] front = {{0, 2, 1}, {1, 1, 0}, {0, 4, 4}, {1, 8, 4}};
        int[][] back = {{2, 8, 3}, {3, 4, 2}, {2, 1, 4}, {3, 2, 4}};
        for (int[] m : front) {
            robotMoves(due, Tools.between(due, m[0], m[1]), m[2], 1, 0);
        }
        for (int[] m : back) {
            robotMoves(due, Tools.between(due, m[0], m[1]), m[2], 0, 1);
        }
        for (int place : new int[] {0, 1, 4}) {
            robotMoves(due, Tools.inLock(15), place, 1, 0);
        }
        for (int chamber = 0; chamber < 4; chamber++) {
            ClusterTool x = Tools.inLock(15);
            Tools.step(due, x, 0, 4);
            robotMoves(due, x, chamber, chamber < 2 ? 1 : 0, chamber < 2 ? 0 : 1);
            x.tick(1);
            robotMoves(due, x, chamber < 2 ? 5 : 4, chamber < 2 ? 1 : 0, chamber < 2 ? 0 : 1);
        }
    }

    private static void robotMoves(Due due, ClusterTool x, int place, int front, int back) {
        int from = x.place(0);
        int frontBefore = x.count(3);
        int backBefore = x.count(4);
        Tools.moved(due, x, 0, place);
        due.same("from " + from + " to " + place + ", moves of the front robot", x.count(3) - frontBefore, front);
        due.same("from " + from + " to " + place + ", moves of the back robot", x.count(4) - backBefore, back);
    }

    @Sentence("(a new visit in the same chamber is a move of the robot that reaches it, too)")
    static void sameChamberIsAMove(Due due) {
        for (int chamber = 0; chamber < 4; chamber++) {
            ClusterTool x = Tools.between(due, chamber, 1 << chamber);
            int clock = x.count(5);
            robotMoves(due, x, chamber, chamber < 2 ? 1 : 0, chamber < 2 ? 0 : 1);
            due.same("place(0)", x.place(0), chamber);
            due.same("in(" + chamber + ")", x.in(chamber), 0);
            due.same("stage(0)", x.stage(0), 2);
            due.same("left(0)", x.left(0), 1);
            due.same("visited(0, 1)", x.visited(0, 1), chamber);
            due.same("when(0, 1, false)", x.when(0, 1, false), clock);
            due.none("when(0, 1, true)", x.when(0, 1, true));
        }
    }

    @Sentence("(a new visit in the same chamber is a move of the robot that reaches it, too)")
    static void sameChamberMakesItsRobotBusy(Due due) {
        ClusterTool x = Tools.routes(Tools.masks(1, 1), Tools.masks(2));
        Tools.load(x, 0, 1);
        Tools.step(due, x, 0, 0);
        Tools.moved(due, x, 0, 0);
        due.same("the front robot has moved: move(1, 1)", x.move(1, 1), Tools.BUSY);
        ClusterTool y = Tools.routes(Tools.masks(4, 4), Tools.masks(8));
        Tools.load(y, 0, 1);
        Tools.bring(due, y, 0, 2);
        Tools.step(due, y, 1, 4);
        Tools.moved(due, y, 0, 2);
        due.same("the back robot has moved: move(1, 3)", y.move(1, 3), Tools.BUSY);
        y.tick(1);
        Tools.moved(due, y, 1, 3);
        due.same("busy itself: move(0, 4)", y.move(0, 4), Tools.BUSY);
    }

    @Sentence("A robot makes at most one move until a tick goes by.")
    static void oneMoveUntilATickGoesBy(Due due) {
        ClusterTool x = Tools.inLock(3);
        x.load(0);
        Tools.moved(due, x, 0, 0);
        due.same("at once: move(1, 1)", x.move(1, 1), Tools.BUSY);
        due.same("tick(0)", x.tick(0), 0);
        due.same("no tick went by: move(1, 1)", x.move(1, 1), Tools.BUSY);
        due.none("tick(201)", x.tick(201));
        due.none("tick(-1)", x.tick(-1));
        due.same("refused ticks: move(1, 1)", x.move(1, 1), Tools.BUSY);
        due.same("count(3)", x.count(3), 1);
        x.tick(1);
        due.same("a tick went by: move(1, 1)", x.move(1, 1), 0);
        due.same("count(3)", x.count(3), 2);
    }

    @Sentence("A robot makes at most one move until a tick goes by.")
    static void eachRobotByItself(Due due) {
        ClusterTool x = Tools.routes(Tools.masks(4, 8), Tools.masks(1));
        Tools.load(x, 0, 1);
        Tools.moved(due, x, 0, 4);
        due.same("front has moved: move(1, 0)", x.move(1, 0), Tools.BUSY);
        Tools.step(due, x, 0, 2);
        Tools.moved(due, x, 0, 3);
        Tools.step(due, x, 1, 0);
        Tools.moved(due, x, 0, 4);
        Tools.moved(due, x, 0, 5);
        due.same("front has moved: move(1, 5)", x.move(1, 5), Tools.BUSY);
        Tools.counts(due, "two wafers", x, 2, 1, 0, 3, 3, 2);
        x.tick(200);
        Tools.moved(due, x, 1, 5);
    }

    @Sentence("FINISHED when it has come back to the lock")
    static void movesNoMoreWhenFinished(Due due) {
        ClusterTool x = Tools.inLock(3);
        Tools.step(due, x, 0, 0);
        due.same("count(1)", x.count(1), 0);
        Tools.step(due, x, 0, 5);
        due.same("count(1)", x.count(1), 1);
        for (int place = 0; place <= 5; place++) {
            due.same("move(0, " + place + ")", x.move(0, place), Tools.UNREADY);
        }
        due.same("place(0)", x.place(0), 5);
        due.same("count(3)", x.count(3), 2);
    }

    /** Every move is tried at every tick, and wherever a wafer is, it is the one that in() tells. */
    @Sentence("In a chamber and in the pass there is at most one wafer, in the lock there are as many as one likes.")
    static void atMostOneWaferInAPlace(Due due) {
        ClusterTool x = Tools.routes(Tools.masks(15, 15), Tools.masks());
        Tools.load(x, 0, 0, 0, 0, 0, 0);
        for (int tick = 0; tick < 8; tick++) {
            for (int i = 0; i < 36; i++) {
                x.move(i % 6, (i / 6 + tick) % 6);
            }
            for (int wafer = 0; wafer < 6; wafer++) {
                int place = x.place(wafer);
                due.same("in(" + place + ")", x.in(place), place == 5 ? Tools.NONE : wafer);
            }
            x.tick(1);
        }
        ClusterTool y = Tools.inLock(1);
        Tools.load(y, 0, 1, 1);
        due.same("four in the lock: place(0)", y.place(0) + y.place(1) + y.place(2) + y.place(3), 4 * 5);
    }

    @Sentence("Answers as may().")
    static void answersAsMay(Due due) {
        ClusterTool x = Tools.routes(Tools.masks(7, 9), Tools.masks(12, 3));
        Tools.load(x, 0, 1, 0);
        for (int step = 0; step < 100; step++) {
            int wafer = step * 3 % 5 - 1;
            int place = step * 5 % 8 - 1;
            int want = x.may(wafer, place);
            due.same("step " + step + ": move(" + wafer + ", " + place + ")", x.move(wafer, place), want);
            if (want == 0) {
                due.same("step " + step + ": place(" + wafer + ")", x.place(wafer), place);
            }
            x.tick(step % 2);
        }
    }

    @Sentence("no move is made after which the tool could not be emptied any more")
    static void unsafeMovesAreNotMade(Due due) {
        ClusterTool x = Tools.routes(Tools.masks(1, 2), Tools.masks(2, 1));
        Tools.load(x, 0, 1);
        Tools.step(due, x, 0, 0);
        due.same("move(1, 1)", x.move(1, 1), Tools.UNSAFE);
        due.same("place(1)", x.place(1), 5);
        due.none("in(1)", x.in(1));
        due.same("safe()", x.safe(), true);
    }

    @Sentence("What answers NONE or false, or why a move is not made, changes nothing.")
    static void movesThatAreNotMadeChangeNothing(Due due) {
        movesChangeNothing(due, Tools.NONE, new int[][] {{-1, 0}, {4, 0}, {25, 4}, {0, -1}, {0, 6}, {Tools.LEAST, 0},
            {0, Tools.MOST}});
        movesChangeNothing(due, Tools.UNREADY, new int[][] {{0, 0}, {0, 1}, {0, 4}, {0, 5}});
        movesChangeNothing(due, Tools.ASTRAY, new int[][] {{1, 0}, {1, 2}, {1, 3}, {1, 5}, {2, 4}, {2, 5}});
        movesChangeNothing(due, Tools.TAKEN, new int[][] {{2, 0}});
        movesChangeNothing(due, Tools.UNSAFE, new int[][] {{1, 1}});
        Twins.same(due, Promise05Test::crossing, x -> refused(due, x, Tools.BUSY, new int[][] {{1, 4}, {3, 4}}));
    }

    private static void movesChangeNothing(Due due, int want, int[][] moves) {
        Twins.same(due, Promise05Test::crossing, x -> refused(due, x, want, moves));
        Twins.same(due, Promise05Test::crossingLater, x -> refused(due, x, want, moves));
        if (want != Tools.UNREADY) {
            Twins.same(due, Promise05Test::crossingWhenReady, x -> refused(due, x, want, moves));
        }
    }

    /** Wafer 0 is in 0 and goes to 1 next, wafer 1 would go the other way; the front robot is busy. */
    private static void crossing(ClusterTool x) {
        x.visit(0, 1, 5, 1);
        x.visit(0, 2, 2, 0);
        x.visit(1, 14, 3, 1);
        x.visit(1, 1, 1, 0);
        Tools.load(x, 0, 1, 0, 1);
        x.move(0, 0);
        x.down(3, true);
    }

    /** Wafer 3 is in the pass, and both robots are free. */
    private static void crossingLater(ClusterTool x) {
        crossing(x);
        x.tick(1);
        x.move(3, 4);
        x.tick(1);
    }

    /** Wafer 0 is ready, too, so that each robot has a move that it could make. */
    private static void crossingWhenReady(ClusterTool x) {
        crossingLater(x);
        x.tick(3);
    }

    private static void refused(Due due, ClusterTool x, int want, int[][] moves) {
        for (int[] m : moves) {
            due.same("move(" + m[0] + ", " + m[1] + ")", x.move(m[0], m[1]), want);
        }
    }
}
