/** Promise 18: count. */
public final class Promise18Test {
    private Promise18Test() {
    }

    public static void main(String[] args) {
        Sentences.test(Promise18Test.class);
    }

    private static ClusterTool twoWafers() {
        ClusterTool x = Tools.with(Tools.visit(0, 2, 1, 1), Tools.visit(0, 8, 1, 0), Tools.visit(0, 8, 1, 0));
        Tools.load(x, 0, 1);
        return x;
    }

    @Sentence("How many wafers there are (what = 0), are finished (1), are late (2), moves the front robot (3) "
            + "and the back robot (4) has made, the clock (5).")
    static void eachCount(Due due) {
        ClusterTool x = twoWafers();
        Tools.counts(due, "one without visits", x, 2, 1, 0, 0, 0, 0);
        Tools.moved(due, x, 0, 1);
        Tools.counts(due, "one in 1", x, 2, 1, 0, 1, 0, 0);
        x.tick(3);
        Tools.counts(due, "late", x, 2, 1, 1, 1, 0, 3);
        Tools.moved(due, x, 0, 4);
        Tools.moved(due, x, 0, 3);
        Tools.counts(due, "one in 3", x, 2, 1, 1, 2, 1, 3);
        x.tick(1);
        Tools.moved(due, x, 0, 3);
        Tools.counts(due, "again in 3", x, 2, 1, 1, 2, 2, 4);
        x.tick(1);
        Tools.moved(due, x, 0, 4);
        Tools.counts(due, "on its way home", x, 2, 1, 1, 2, 3, 5);
        Tools.moved(due, x, 0, 5);
        Tools.counts(due, "finished", x, 2, 2, 1, 3, 3, 5);
        x.load(1);
        Tools.counts(due, "one more", x, 3, 3, 1, 3, 3, 5);
    }

    @Sentence("at most 25")
    static void twentyFiveOfEach(Due due) {
        ClusterTool x = Tools.with(Tools.visit(0, 3, 1, 1));
        for (int wafer = 0; wafer < 26; wafer++) {
            x.load(0);
        }
        for (int wafer = 0; wafer < 25; wafer++) {
            Tools.moved(due, x, wafer, 0);
            x.tick(3);
            Tools.moved(due, x, wafer, 5);
            x.tick(1);
        }
        Tools.counts(due, "all late and finished", x, 25, 25, 25, 50, 0, 100);
    }

    @Sentence("NONE: another what.")
    static void anotherWhat(Due due) {
        ClusterTool x = twoWafers();
        for (int what : new int[] {-1, 6, 7, -6, Tools.LEAST, Tools.MOST}) {
            due.none("count(" + what + ")", x.count(what));
        }
    }

    @Sentence("What answers NONE or false, or why a move is not made, changes nothing.")
    static void lookingChangesNothing(Due due) {
        Twins.same(due, Promise18Test::someMoves, Twins::picture);
        Twins.same(due, Promise18Test::someMoves, Promise18Test::wrongLooks);
    }

    private static void someMoves(ClusterTool x) {
        x.visit(0, 3, 2, 1);
        x.visit(0, 12, 1, 0);
        Tools.load(x, 0, 0);
        x.go();
        x.tick(4);
        x.go();
    }

    private static void wrongLooks(ClusterTool x) {
        for (int wrong : new int[] {-1, 25, Tools.LEAST, Tools.MOST}) {
            x.count(wrong);
            x.in(wrong);
            x.place(wrong);
            x.stage(wrong);
            x.left(wrong);
            x.stay(wrong);
            x.visited(wrong, 0);
            x.visited(0, wrong);
            x.when(wrong, 0, true);
            x.when(0, wrong, false);
        }
    }
}
