/** Promise 7: go. */
public final class Promise07Test {
    private Promise07Test() {
    }

    public static void main(String[] args) {
        Sentences.test(Promise07Test.class);
    }

    @Sentence("That move is made: what next() answered.")
    static void makesTheMoveThatNextAnswered(Due due) {
        ClusterTool x = Tools.with(Tools.visit(0, 1, 2, 3), Tools.visit(0, 12, 1, 0), Tools.visit(1, 14, 1, 1));
        Tools.load(x, 0, 1, 0, 1);
        for (int step = 0; step < 60; step++) {
            int want = x.next();
            int moves = x.count(3) + x.count(4);
            due.same("step " + step + ": go()", x.go(), want);
            due.same("step " + step + ": moves", x.count(3) + x.count(4), want == Tools.NONE ? moves : moves + 1);
            if (want == Tools.NONE) {
                x.tick(1);
            } else {
                due.same("step " + step + ": place(" + want / 8 + ")", x.place(want / 8), want % 8);
            }
        }
        due.same("count(1)", x.count(1), 4);
    }

    /** Whatever go() does, the same moves by move() do, too. */
    @Sentence("That move is made: what next() answered.")
    static void movesAsMoveDoes(Due due) {
        ClusterTool x = Tools.between(due, 2, 9);
        ClusterTool y = Tools.between(due, 2, 9);
        for (int step = 0; step < 5; step++) {
            int made = x.go();
            due.same("step " + step + ": move", made == Tools.NONE ? 0 : y.move(made / 8, made % 8), 0);
            due.same("step " + step, Twins.picture(x), Twins.picture(y));
            x.tick(1);
            y.tick(1);
        }
        due.same("count(1)", x.count(1), 1);
    }

    @Sentence("A robot makes at most one move until a tick goes by.")
    static void oneMoveOfEachRobotInATick(Due due) {
        ClusterTool x = Tools.inLock(12);
        x.load(0);
        due.same("front: go()", x.go(), 4);
        due.same("back: go()", x.go(), 2);
        due.none("both have moved: go()", x.go());
        x.tick(0);
        due.none("no tick went by: go()", x.go());
        x.tick(1);
        due.same("back: go()", x.go(), 4);
        due.same("front: go()", x.go(), 5);
        due.none("both have moved: go()", x.go());
        due.same("count(3)", x.count(3), 2);
        due.same("count(4)", x.count(4), 2);
    }

    @Sentence("What answers NONE or false, or why a move is not made, changes nothing.")
    static void noneChangesNothing(Due due) {
        Twins.same(due, x -> { }, x -> due.none("no wafers: go()", x.go()));
        Twins.same(due, Promise07Test::twoThatWait, x -> due.none("busy and unready: go()", x.go()));
        Twins.same(due, Promise07Test::twoThatAreStuck, x -> due.none("unsafe: go()", x.go()));
    }

    private static void twoThatWait(ClusterTool x) {
        x.visit(0, 3, 5, 2);
        Tools.load(x, 0, 0);
        x.move(0, 0);
    }

    private static void twoThatAreStuck(ClusterTool x) {
        x.visit(0, 4, 1, 1);
        x.visit(1, 1, 1, 1);
        Tools.load(x, 0, 1);
        x.move(0, 4);
        x.tick(1);
        x.down(2, true);
    }

    /** As no move is unsafe, moves and ticks alone bring every wafer back. */
    @Sentence("no move is made after which the tool could not be emptied any more")
    static void allAreFinishedAtLast(Due due) {
        int[][] routes = {{4, 1, 8}, {15, 15, 15}, {1, 2, 1}, {4, 2, 4}, {9, 6, 9}, {8, 4, 3}, {3, 12, 3}};
        for (int[] first : routes) {
            for (int[] second : routes) {
                ClusterTool x = Tools.routes(first, second);
                Tools.load(x, 0, 1, 0, 1, 0, 1, 0, 1, 0);
                for (int step = 0; step < 240; step++) {
                    if (x.go() == Tools.NONE) {
                        x.tick(1);
                    }
                }
                due.same("count(1)", x.count(1), 9);
            }
        }
    }
}
