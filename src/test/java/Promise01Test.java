/** Promise 1: a new object. */
public final class Promise01Test {
    private Promise01Test() {
    }

    public static void main(String[] args) {
        Sentences.test(Promise01Test.class);
    }

    @Sentence("Routes without visits")
    static void routesWithoutVisits(Due due) {
        for (int route = 0; route < 2; route++) {
            due.same("the first visit(" + route + ", ..)", new ClusterTool().visit(route, 1, 1, 0), 1);
            ClusterTool x = new ClusterTool();
            due.same("load(" + route + ")", x.load(route), 0);
            due.same("a wafer of a route without visits is finished: count(1)", x.count(1), 1);
        }
    }

    @Sentence("no wafers")
    static void noWafers(Due due) {
        ClusterTool x = new ClusterTool();
        Tools.counts(due, "new", x, 0, 0, 0, 0, 0, 0);
        for (int place = 0; place <= 5; place++) {
            due.none("in(" + place + ")", x.in(place));
            due.none("may(0, " + place + ")", x.may(0, place));
            due.none("move(0, " + place + ")", x.move(0, place));
        }
        due.none("place(0)", x.place(0));
        due.none("stage(0)", x.stage(0));
        due.none("visited(0, 0)", x.visited(0, 0));
        due.none("when(0, 0, false)", x.when(0, 0, false));
        due.none("when(0, 0, true)", x.when(0, 0, true));
        due.none("left(0)", x.left(0));
        due.none("stay(0)", x.stay(0));
        due.none("next()", x.next());
        due.none("go()", x.go());
        due.same("safe()", x.safe(), true);
    }

    @Sentence("all chambers up")
    static void allChambersUp(Due due) {
        ClusterTool x = new ClusterTool();
        for (int chamber = 0; chamber < 4; chamber++) {
            due.same("it is up already: down(" + chamber + ", false)", x.down(chamber, false), false);
        }
    }

    @Sentence("the clock at 0")
    static void clockAtZero(Due due) {
        ClusterTool x = new ClusterTool();
        due.same("count(5)", x.count(5), 0);
        due.same("tick(1)", x.tick(1), 0);
        due.same("a tick later: count(5)", x.count(5), 1);
        ClusterTool y = Tools.inLock(1);
        Tools.moved(due, y, 0, 0);
        due.same("when(0, 0, false)", y.when(0, 0, false), 0);
    }

    /** Whatever other objects have gone through: nothing is shared by two of them. */
    @Sentence("Routes without visits, no wafers, all chambers up, the clock at 0.")
    static void objectsShareNothing(Due due) {
        ClusterTool used = Tools.inLock(15);
        used.visit(1, 1, 1, 1);
        Tools.moved(due, used, 0, 1);
        used.down(0, true);
        used.tick(7);
        routesWithoutVisits(due);
        noWafers(due);
        allChambersUp(due);
        clockAtZero(due);
        due.same("the first object's place(0)", used.place(0), 1);
        due.same("the first object's clock", used.count(5), 7);
    }
}
