/** Promise 10: safe, and with it which situations can be emptied. */
public final class Promise10Test {
    private static final int UNSAFE = Tools.UNSAFE;

    private Promise10Test() {
    }

    public static void main(String[] args) {
        Sentences.test(Promise10Test.class);
    }

    private static ClusterTool routes(int[] masks0, int[] masks1, int... wafers) {
        ClusterTool x = Tools.routes(masks0, masks1);
        Tools.load(x, wafers);
        return x;
    }

    @Sentence("A situation can be EMPTIED when there is none")
    static void safeWhenThereIsNone(Due due) {
        due.same("new: safe()", new ClusterTool().safe(), true);
        ClusterTool x = Tools.inLock(4);
        due.same("in the lock: safe()", x.safe(), true);
        Tools.bring(due, x, 0, 2);
        Tools.step(due, x, 0, 4);
        Tools.step(due, x, 0, 5);
        due.same("finished: safe()", x.safe(), true);
    }

    @Sentence("new wafers in the lock do not count")
    static void wafersInTheLockDoNotCount(Due due) {
        ClusterTool x = Tools.routes(Tools.masks(1, 2), Tools.masks(4));
        for (int wafer = 0; wafer < 25; wafer++) {
            x.load(wafer % 2);
        }
        due.same("all in the lock: safe()", x.safe(), true);
        for (int chamber = 0; chamber < 4; chamber++) {
            x.down(chamber, true);
        }
        due.same("and all chambers down: safe()", x.safe(), true);
        x.down(0, false);
        due.same("0 alone is up: may(0, 0)", x.may(0, 0), UNSAFE);
        x.down(1, false);
        due.same("0 and 1 are up: may(0, 0)", x.may(0, 0), 0);
    }

    @Sentence("nor does whether wafers are ready")
    static void unreadyWafersAreAsReadyOnes(Due due) {
        ClusterTool x = Tools.with(Tools.visit(0, 1, 100, 0), Tools.visit(0, 2, 100, 0), Tools.visit(1, 2, 100, 0),
                Tools.visit(1, 1, 100, 0));
        Tools.load(x, 0, 1);
        Tools.step(due, x, 0, 0);
        due.same("unready: safe()", x.safe(), true);
        due.same("unready: may(1, 1)", x.may(1, 1), UNSAFE);
        x.tick(99);
        due.same("ready: safe()", x.safe(), true);
        due.same("ready: may(1, 1)", x.may(1, 1), UNSAFE);
        Tools.moved(due, x, 0, 1);
        x.tick(1);
        due.same("unready in its last visit: may(1, 1)", x.may(1, 1), Tools.TAKEN);
        x.load(0);
        due.same("it leaves 1 for the lock: may(2, 0)", x.may(2, 0), 0);
    }

    @Sentence("nor does whether wafers are ready")
    static void busyRobotsDoNotCount(Due due) {
        ClusterTool x = Tools.inLock(4);
        Tools.moved(due, x, 0, 4);
        due.same("front is busy: safe()", x.safe(), true);
        Tools.moved(due, x, 0, 2);
        due.same("both are busy: safe()", x.safe(), true);
    }

    @Sentence("but for wafers in chambers that are down")
    static void wafersInDownChambersMayStay(Due due) {
        for (int chamber = 0; chamber < 4; chamber++) {
            int other = chamber ^ 1;
            ClusterTool x = routes(Tools.masks(1 << chamber, 1 << other), Tools.masks(), 0);
            Tools.bring(due, x, 0, chamber);
            x.down(other, true);
            due.same(other + " is down, the wafer in " + chamber + ": safe()", x.safe(), false);
            x.down(chamber, true);
            due.same("both are down: safe()", x.safe(), true);
            x.down(chamber, false);
            due.same(chamber + " is up again: safe()", x.safe(), false);
            x.down(other, false);
            due.same("both are up: safe()", x.safe(), true);
        }
    }

    @Sentence("but for wafers in chambers that are down")
    static void waferInThePassMayNotStay(Due due) {
        ClusterTool x = Tools.inLock(12);
        Tools.step(due, x, 0, 4);
        x.down(2, true);
        due.same("3 is up: safe()", x.safe(), true);
        x.down(3, true);
        due.same("neither is up: safe()", x.safe(), false);
        x.down(2, false);
        due.same("2 is up: safe()", x.safe(), true);
    }

    @Sentence("no way leads into one or out of one")
    static void waferInADownChamberMakesNoRoom(Due due) {
        ClusterTool x = routes(Tools.masks(1, 2), Tools.masks(2), 0, 1);
        Tools.step(due, x, 1, 1);
        Tools.step(due, x, 0, 0);
        due.same("wafer 1 can go home: safe()", x.safe(), true);
        x.down(1, true);
        due.same("wafer 0 waits for 1, which is down: safe()", x.safe(), false);
        x.down(0, true);
        due.same("both are in chambers that are down: safe()", x.safe(), true);
    }

    @Sentence("or when there is a way for some wafer in a chamber or the pass to an empty place")
    static void emptyPlacesAlone(Due due) {
        ClusterTool ring = routes(Tools.masks(1, 2, 1), Tools.masks(2, 1, 2), 0, 1, 0);
        Tools.step(due, ring, 0, 0);
        due.same("each waits for the other's chamber: may(1, 1)", ring.may(1, 1), UNSAFE);
        Tools.step(due, ring, 0, 1);
        due.same("0 is needed once more: may(2, 0)", ring.may(2, 0), UNSAFE);
        Tools.step(due, ring, 0, 0);
        due.same("it goes home now: may(1, 1)", ring.may(1, 1), 0);
        Tools.step(due, ring, 1, 1);
        due.same("safe()", ring.safe(), true);
        Tools.step(due, ring, 0, 5);
        due.same("wafer 1 needs 0: may(2, 0)", ring.may(2, 0), UNSAFE);
    }

    @Sentence("or when there is a way for some wafer in a chamber or the pass to an empty place")
    static void thePassIsOnePlace(Due due) {
        ClusterTool x = routes(Tools.masks(4, 1), Tools.masks(1, 4), 0, 1, 0);
        Tools.bring(due, x, 0, 2);
        due.same("they would wait for each other's chamber: may(1, 0)", x.may(1, 0), UNSAFE);
        due.same("the one in 2 could not leave: may(2, 4)", x.may(2, 4), UNSAFE);
        Tools.step(due, x, 0, 4);
        Tools.step(due, x, 0, 0);
        due.same("2 is free: may(2, 4)", x.may(2, 4), 0);
        Tools.step(due, x, 2, 4);
        due.same("safe()", x.safe(), true);
    }

    @Sentence("or when there is a way for some wafer in a chamber or the pass to an empty place")
    static void bothSidesFull(Due due) {
        ClusterTool x = routes(Tools.masks(3, 12), Tools.masks(12, 3), 0, 0, 1, 1);
        Tools.step(due, x, 0, 0);
        Tools.step(due, x, 1, 1);
        Tools.bring(due, x, 2, 2);
        due.same("one chamber is left: safe()", x.safe(), true);
        due.same("it would take that one: may(3, 4)", x.may(3, 4), UNSAFE);
        due.same("wafer 0 takes it: may(0, 4)", x.may(0, 4), 0);
        Tools.step(due, x, 0, 4);
        due.same("0 is left for wafer 2, but not the pass: may(2, 4)", x.may(2, 4), Tools.TAKEN);
        due.same("may(0, 3)", x.may(0, 3), 0);
    }

    @Sentence("after which the situation can be emptied")
    static void laterVisitsCount(Due due) {
        ClusterTool x = routes(Tools.masks(1, 2, 4), Tools.masks(4, 4, 1), 0, 1);
        Tools.step(due, x, 0, 0);
        due.same("wafer 0 can go on to 1 and make room: may(1, 4)", x.may(1, 4), 0);
        x.down(1, true);
        due.same("1 is down: may(1, 4)", x.may(1, 4), UNSAFE);
        x.down(1, false);
        Tools.step(due, x, 0, 1);
        due.same("wafer 1 can leave 2: may(1, 4)", x.may(1, 4), 0);
        x.down(2, true);
        due.same("the third visit cannot be made: safe()", x.safe(), false);
    }

    @Sentence("after which the situation can be emptied")
    static void alternativesHelp(Due due) {
        ClusterTool one = routes(Tools.masks(4, 8), Tools.masks(8, 4), 0, 1);
        Tools.bring(due, one, 0, 2);
        due.same("2 alone: may(1, 4)", one.may(1, 4), UNSAFE);
        ClusterTool two = routes(Tools.masks(4, 8), Tools.masks(8, 5), 0, 1);
        Tools.bring(due, two, 0, 2);
        due.same("0 in place of 2: may(1, 4)", two.may(1, 4), 0);
        Tools.bring(due, two, 1, 3);
        due.same("0 in place of 2: safe()", two.safe(), true);
        two.down(0, true);
        due.same("0 is down, but the pass is a way round: safe()", two.safe(), true);
    }

    /** The mask alone opens the way to the pass: a wafer may wait there for a chamber on its own side. */
    @Sentence("from a chamber or the lock to the pass when the mask has a chamber that the other robot alone reaches")
    static void thePassIsAWayRound(Due due) {
        ClusterTool x = routes(Tools.masks(1, 2), Tools.masks(2, 5), 0, 1);
        x.down(2, true);
        Tools.step(due, x, 0, 0);
        due.same("may(1, 1)", x.may(1, 1), 0);
        Tools.step(due, x, 1, 1);
        due.same("safe()", x.safe(), true);
        Tools.step(due, x, 1, 4);
        Tools.step(due, x, 0, 1);
        Tools.step(due, x, 1, 0);
        due.same("stage(1)", x.stage(1), 2);
    }

    @Sentence("the lock is always empty")
    static void theLockIsAlwaysEmpty(Due due) {
        ClusterTool x = Tools.routes(Tools.masks(3), Tools.masks());
        for (int wafer = 0; wafer < 25; wafer++) {
            x.load(wafer < 10 ? 0 : 1);
        }
        Tools.step(due, x, 0, 0);
        Tools.step(due, x, 1, 1);
        due.same("23 in the lock: safe()", x.safe(), true);
        Tools.step(due, x, 0, 5);
        due.same("24 in the lock: safe()", x.safe(), true);
        Tools.step(due, x, 2, 0);
        due.same("finished and new ones in the lock: safe()", x.safe(), true);
    }

    @Sentence("the same chamber is")
    static void theSameChamberIsEmptyForItsWafer(Due due) {
        for (int chamber = 0; chamber < 4; chamber++) {
            int one = 1 << chamber;
            int other = 1 << (chamber ^ 1);
            ClusterTool x = routes(Tools.masks(one, one, one), Tools.masks(other, other, other), 0, 1);
            Tools.bring(due, x, 0, chamber);
            due.same("again in " + chamber + ": safe()", x.safe(), true);
            Tools.bring(due, x, 1, chamber ^ 1);
            due.same("each again where it is: safe()", x.safe(), true);
            Tools.step(due, x, 0, chamber);
            Tools.step(due, x, 0, chamber);
            Tools.step(due, x, 0, chamber < 2 ? 5 : 4);
        }
    }

    @Sentence("Whether the situation can be emptied.")
    static void downAndUpAgain(Due due) {
        ClusterTool x = routes(Tools.masks(4), Tools.masks(1), 0, 1);
        Tools.step(due, x, 0, 4);
        due.same("safe()", x.safe(), true);
        x.down(2, true);
        due.same("2 is down: safe()", x.safe(), false);
        due.same("no other move helps: may(1, 0)", x.may(1, 0), UNSAFE);
        due.none("next()", x.next());
        x.down(2, false);
        due.same("2 is up: safe()", x.safe(), true);
        due.same("may(1, 0)", x.may(1, 0), 0);
        Tools.step(due, x, 0, 2);
        Tools.step(due, x, 0, 4);
        x.down(2, true);
        due.same("it needs no chamber any more: safe()", x.safe(), true);
    }

    /** Emptying takes 21 moves at least; a chamber that was down for a while has it all found out anew. */
    @Sentence("after which the situation can be emptied")
    static void aLongWayOut(Due due) {
        ClusterTool x = routes(Tools.masks(7, 4, 7), Tools.masks(15, 3, 15), 1, 0, 0, 1, 0);
        Tools.bring(due, x, 0, 3);
        Tools.bring(due, x, 1, 2);
        Tools.step(due, x, 2, 0);
        Tools.step(due, x, 3, 1);
        Tools.step(due, x, 4, 4);
        for (int chamber = 0; chamber < 4; chamber++) {
            x.down(chamber, true);
            x.down(chamber, false);
            due.same(chamber + " was down: safe()", x.safe(), true);
        }
        for (int call = 30; call < 200; call++) {
            if (x.go() == Tools.NONE) {
                x.tick(1);
            }
        }
        due.same("count(1)", x.count(1), 5);
    }

    @Sentence("Whether the situation can be emptied.")
    static void fiveWafersInside(Due due) {
        ClusterTool x = routes(Tools.masks(15, 15, 15), Tools.masks(15, 15, 15), 0, 1, 0, 1, 0);
        Tools.bring(due, x, 0, 2);
        Tools.bring(due, x, 1, 3);
        Tools.step(due, x, 2, 0);
        Tools.step(due, x, 3, 1);
        due.same("four: safe()", x.safe(), true);
        due.same("may(4, 4)", x.may(4, 4), 0);
        Tools.step(due, x, 4, 4);
        due.same("five: safe()", x.safe(), true);
        for (int chamber = 0; chamber < 4; chamber++) {
            x.down(chamber, true);
        }
        due.same("the one in the pass: safe()", x.safe(), false);
        x.down(3, false);
        due.same("wafer 1 leaves 3 through the pass alone, wafer 4 the pass through 3: safe()", x.safe(), false);
        x.down(0, false);
        due.same("wafer 2 leaves 0 for the lock: safe()", x.safe(), true);
    }

    @Sentence("What answers NONE or false, or why a move is not made, changes nothing.")
    static void askingChangesNothing(Due due) {
        Twins.same(due, Promise10Test::oneInThePass, x -> due.same("safe()", x.safe(), true));
        Twins.same(due, Promise10Test::oneThatIsStuck, x -> due.same("safe()", x.safe(), false));
    }

    private static void oneInThePass(ClusterTool x) {
        x.visit(0, 4, 2, 1);
        x.visit(1, 3, 2, 1);
        Tools.load(x, 0, 1);
        x.move(0, 4);
    }

    private static void oneThatIsStuck(ClusterTool x) {
        oneInThePass(x);
        x.down(2, true);
    }
}
