/** Promise 9: down. */
public final class Promise09Test {
    private Promise09Test() {
    }

    public static void main(String[] args) {
        Sentences.test(Promise09Test.class);
    }

    /** A wafer that has just come into a chamber of the back or the front. */
    private static ClusterTool inChamber(Due due, int chamber, int time, int limit) {
        ClusterTool x = Tools.with(Tools.visit(0, 1 << chamber, time, limit), Tools.visit(0, 15, 1, 0));
        x.load(0);
        if (chamber > 1) {
            Tools.moved(due, x, 0, 4);
        }
        Tools.moved(due, x, 0, chamber);
        return x;
    }

    @Sentence("A chamber is down from now on, or up: whether that is a change.")
    static void whetherThatIsAChange(Due due) {
        ClusterTool x = new ClusterTool();
        for (int chamber = 0; chamber < 4; chamber++) {
            due.same("up already: down(" + chamber + ", false)", x.down(chamber, false), false);
            due.same("down(" + chamber + ", true)", x.down(chamber, true), true);
            due.same("down already: down(" + chamber + ", true)", x.down(chamber, true), false);
        }
        for (int chamber = 3; chamber >= 0; chamber--) {
            due.same("it is down: down(" + chamber + ", true)", x.down(chamber, true), false);
            due.same("down(" + chamber + ", false)", x.down(chamber, false), true);
            due.same("up already: down(" + chamber + ", false)", x.down(chamber, false), false);
        }
    }

    @Sentence("False also when there is no such chamber.")
    static void noSuchChamber(Due due) {
        ClusterTool x = new ClusterTool();
        for (int chamber : new int[] {-1, 4, 5, 6, 32, -32, Tools.LEAST, Tools.MOST}) {
            due.same("down(" + chamber + ", true)", x.down(chamber, true), false);
            due.same("down(" + chamber + ", false)", x.down(chamber, false), false);
        }
        for (int chamber = 0; chamber < 4; chamber++) {
            due.same("it is still up: down(" + chamber + ", false)", x.down(chamber, false), false);
        }
    }

    @Sentence("no way leads into one")
    static void noWayLeadsIntoOne(Due due) {
        for (int chamber = 0; chamber < 4; chamber++) {
            ClusterTool x = Tools.inLock(15);
            Tools.step(due, x, 0, 4);
            x.down(chamber, true);
            for (int to = 0; to < 4; to++) {
                due.same(chamber + " is down: may(0, " + to + ")", x.may(0, to), to == chamber ? Tools.ASTRAY : 0);
            }
            due.same("move(0, " + chamber + ")", x.move(0, chamber), Tools.ASTRAY);
            x.down(chamber, false);
            due.same("up again: move(0, " + chamber + ")", x.move(0, chamber), 0);
        }
    }

    @Sentence("or out of one")
    static void noWayLeadsOutOfOne(Due due) {
        for (int chamber = 0; chamber < 4; chamber++) {
            ClusterTool x = inChamber(due, chamber, 1, 0);
            x.tick(1);
            x.down(chamber, true);
            for (int to = 0; to <= 5; to++) {
                due.same(chamber + " is down: move(0, " + to + ")", x.move(0, to), Tools.ASTRAY);
            }
            due.none("next()", x.next());
            x.down(chamber, false);
            due.same("up again, and in the same chamber", x.move(0, chamber), 0);
            x.tick(1);
            x.down(chamber, true);
            int home = chamber < 2 ? 5 : 4;
            due.same("home: move(0, " + home + ")", x.move(0, home), Tools.ASTRAY);
            x.down(chamber, false);
            due.same("up again: move(0, " + home + ")", x.move(0, home), 0);
        }
    }

    @Sentence("no way leads into one or out of one")
    static void waysPastOneAreFree(Due due) {
        ClusterTool x = Tools.inLock(4);
        for (int chamber : new int[] {0, 1, 3}) {
            x.down(chamber, true);
        }
        for (int place : new int[] {4, 2, 4, 5}) {
            Tools.step(due, x, 0, place);
        }
        due.same("count(1)", x.count(1), 1);
    }

    @Sentence("nothing goes on there: no time of a visit")
    static void noTimeOfAVisitPasses(Due due) {
        for (int chamber = 0; chamber < 4; chamber++) {
            ClusterTool x = inChamber(due, chamber, 5, 2);
            x.tick(2);
            x.down(chamber, true);
            due.same("tick(200)", x.tick(200), 0);
            due.same("left(0)", x.left(0), 3);
            due.same("stay(0)", x.stay(0), 5);
            due.none("when(0, 0, true)", x.when(0, 0, true));
            due.same("the clock goes on: count(5)", x.count(5), 202);
            x.down(chamber, false);
            x.tick(2);
            due.same("left(0)", x.left(0), 1);
            x.tick(1);
            due.same("left(0)", x.left(0), 0);
            due.same("when(0, 0, true)", x.when(0, 0, true), 205);
            due.same("when(0, 0, false)", x.when(0, 0, false), 0);
        }
    }

    @Sentence("or limit passes in it")
    static void noLimitPasses(Due due) {
        for (int chamber = 0; chamber < 4; chamber++) {
            ClusterTool x = inChamber(due, chamber, 5, 2);
            x.tick(7);
            x.down(chamber, true);
            due.same("down, exactly at the limit: tick(200)", x.tick(200), 0);
            due.same("stay(0)", x.stay(0), 0);
            due.same("count(2)", x.count(2), 0);
            x.down(chamber, false);
            due.same("up: tick(1)", x.tick(1), 1);
            x.down(chamber, true);
            due.same("late for ever: count(2)", x.count(2), 1);
        }
    }

    @Sentence("nothing goes on there")
    static void allGoesOnElsewhere(Due due) {
        ClusterTool x = Tools.with(Tools.visit(0, 3, 5, 2));
        Tools.load(x, 0, 0);
        Tools.moved(due, x, 0, 0);
        x.tick(1);
        Tools.moved(due, x, 1, 1);
        x.down(0, true);
        due.same("the other one: tick(8)", x.tick(8), 1);
        due.same("left(0)", x.left(0), 4);
        due.same("left(1)", x.left(1), 0);
        due.same("when(1, 0, true)", x.when(1, 0, true), 6);
    }

    /** It is not ready before its time has passed, however long it is there. */
    @Sentence("no time of a visit or limit passes in it")
    static void notReadyInIt(Due due) {
        ClusterTool x = inChamber(due, 0, 1, 0);
        x.down(0, true);
        x.tick(200);
        due.same("down: may(0, 1)", x.may(0, 1), Tools.UNREADY);
        x.down(0, false);
        due.same("up: may(0, 1)", x.may(0, 1), Tools.UNREADY);
        x.tick(1);
        due.same("a tick later: may(0, 1)", x.may(0, 1), 0);
    }

    @Sentence("What answers NONE or false, or why a move is not made, changes nothing.")
    static void falseChangesNothing(Due due) {
        Twins.same(due, Promise09Test::oneDown, x -> {
            due.same("down(1, true)", x.down(1, true), false);
            due.same("down(0, false)", x.down(0, false), false);
            for (int chamber : new int[] {-1, 4, 5, 32, Tools.LEAST, Tools.MOST}) {
                x.down(chamber, true);
                x.down(chamber, false);
            }
        });
    }

    private static void oneDown(ClusterTool x) {
        x.visit(0, 3, 4, 2);
        x.visit(0, 12, 3, 1);
        Tools.load(x, 0, 0);
        x.move(0, 1);
        x.tick(2);
        x.down(1, true);
        x.down(2, true);
        x.tick(2);
    }
}
