/** Promise 4: may, with the ways that there are. */
public final class Promise04Test {
    private static final int UNREADY = Tools.UNREADY;
    private static final int ASTRAY = Tools.ASTRAY;
    private static final int TAKEN = Tools.TAKEN;
    private static final int UNSAFE = Tools.UNSAFE;
    private static final int BUSY = Tools.BUSY;

    private Promise04Test() {
    }

    public static void main(String[] args) {
        Sentences.test(Promise04Test.class);
    }

    @Sentence("NONE: no such wafer or place.")
    static void noSuchWaferOrPlace(Due due) {
        ClusterTool x = Tools.inLock(15);
        int[][] wrong = {{-1, 0}, {1, 0}, {24, 0}, {25, 0}, {0, -1}, {0, 6}, {0, 7}, {0, 8}, {-1, -1}, {1, 6},
            {Tools.LEAST, 0}, {Tools.MOST, 0}, {0, Tools.LEAST}, {0, Tools.MOST}};
        for (int[] w : wrong) {
            due.none("may(" + w[0] + ", " + w[1] + ")", x.may(w[0], w[1]));
        }
        Tools.moved(due, x, 0, 0);
        due.none("not ready, but no such place: may(0, 6)", x.may(0, 6));
        due.none("not ready, but no such place: may(0, -1)", x.may(0, -1));
        due.none("robot busy, but no such wafer: may(1, 1)", x.may(1, 1));
        x.tick(1);
        Tools.moved(due, x, 0, 5);
        due.none("finished, but no such place: may(0, 6)", x.may(0, 6));
    }

    @Sentence("0 when it can")
    static void zeroWhenItCan(Due due) {
        ClusterTool x = Tools.inLock(15);
        Tools.ways(due, "from the lock", x, 0, 0, 0, ASTRAY, ASTRAY, 0, ASTRAY);
        due.same("asking is no move: place(0)", x.place(0), 5);
        due.same("asking makes no robot busy: may(0, 1)", x.may(0, 1), 0);
        due.same("count(3)", x.count(3), 0);
    }

    @Sentence("UNREADY it is not, or is finished")
    static void unready(Due due) {
        ClusterTool x = Tools.with(Tools.visit(0, 3, 3, 0), Tools.visit(0, 3, 1, 0));
        x.load(0);
        Tools.moved(due, x, 0, 0);
        for (int ticks = 0; ticks < 3; ticks++) {
            allUnready(due, ticks + " ticks of 3", x, 0);
            x.tick(1);
        }
        Tools.ways(due, "3 ticks of 3", x, 0, 0, 0, ASTRAY, ASTRAY, ASTRAY, ASTRAY);
        Tools.step(due, x, 0, 1);
        Tools.step(due, x, 0, 5);
        allUnready(due, "finished", x, 0);
        ClusterTool y = new ClusterTool();
        y.load(1);
        allUnready(due, "finished as it has no visits", y, 0);
    }

    private static void allUnready(Due due, String where, ClusterTool x, int wafer) {
        Tools.ways(due, where, x, wafer, UNREADY, UNREADY, UNREADY, UNREADY, UNREADY, UNREADY);
    }

    @Sentence("(Where no visit goes on, a wafer is ready, too.)")
    static void readyWhereNoVisitGoesOn(Due due) {
        ClusterTool x = Tools.with(Tools.visit(0, 12, 100, 0));
        x.load(0);
        due.same("in the lock: may(0, 4)", x.may(0, 4), 0);
        Tools.moved(due, x, 0, 4);
        due.same("in the pass, at once: may(0, 2)", x.may(0, 2), 0);
        due.same("in the pass: left(0)", x.left(0), 0);
        Tools.moved(due, x, 0, 2);
        x.tick(100);
        Tools.moved(due, x, 0, 4);
        due.same("in the pass after a visit: may(0, 5)", x.may(0, 5), 0);
    }

    /** One wafer alone in a tool that is up is never in anyone's way: there is a way, or it is astray. */
    @Sentence("With visits left, the next one being v: to a chamber of the mask of v (where v begins), or "
            + "from a chamber or the lock to the pass when the mask has a chamber that the other robot alone reaches")
    static void waysWithVisitsLeft(Due due) {
        for (int mask = 1; mask <= 15; mask++) {
            waysOf(due, Tools.inLock(mask), 5, mask);
            for (int chamber = 0; chamber < 4; chamber++) {
                ClusterTool x = Tools.between(due, chamber, mask);
                waysOf(due, x, chamber, mask);
                if (x.move(0, 4) == 0) {
                    x.tick(1);
                    waysOf(due, x, 4, mask);
                }
            }
        }
        ClusterTool x = Tools.inLock(15);
        Tools.step(due, x, 0, 4);
        waysOf(due, x, 4, 15);
    }

    private static void waysOf(Due due, ClusterTool x, int from, int mask) {
        boolean front = mask % 4 > 0;
        boolean back = mask >= 4;
        for (int to = 0; to <= 5; to++) {
            boolean way;
            if (from == 5 || from == 0 || from == 1) {
                way = to == 4 ? back : to <= 1 && (mask >> to & 1) == 1;
            } else if (from == 2 || from == 3) {
                way = to == 4 ? front : (to == 2 || to == 3) && (mask >> to & 1) == 1;
            } else {
                way = to <= 3 && (mask >> to & 1) == 1;
            }
            due.same("from " + from + ", mask " + mask + ": may(0, " + to + ")", x.may(0, to), way ? 0 : ASTRAY);
        }
    }

    @Sentence("(for a wafer in the lock or in 0, 1: chamber 2 or 3; in 2, 3: chamber 0 or 1)")
    static void toThePassForTheOtherSideAlone(Due due) {
        for (int one = 0; one < 4; one++) {
            int mask = 1 << one;
            int forBack = one >= 2 ? 0 : ASTRAY;
            int forFront = one < 2 ? 0 : ASTRAY;
            due.same("from the lock for " + one, Tools.inLock(mask).may(0, 4), forBack);
            due.same("from 0 for " + one, Tools.between(due, 0, mask).may(0, 4), forBack);
            due.same("from 1 for " + one, Tools.between(due, 1, mask).may(0, 4), forBack);
            due.same("from 2 for " + one, Tools.between(due, 2, mask).may(0, 4), forFront);
            due.same("from 3 for " + one, Tools.between(due, 3, mask).may(0, 4), forFront);
        }
    }

    /** A mask of all chambers leaves nothing but the robots' reach to keep a wafer from one of them. */
    @Sentence("The FRONT robot reaches 0, 1, 4 and 5, the BACK robot 2, 3 and 4.")
    static void chambersInReach(Due due) {
        for (int chamber = 0; chamber < 4; chamber++) {
            boolean back = chamber >= 2;
            int front = back ? ASTRAY : 0;
            Tools.ways(due, "from " + chamber, Tools.between(due, chamber, 15), 0, front, front,
                    back ? 0 : ASTRAY, back ? 0 : ASTRAY, 0, ASTRAY);
        }
        Tools.ways(due, "from the lock", Tools.inLock(15), 0, 0, 0, ASTRAY, ASTRAY, 0, ASTRAY);
        ClusterTool x = Tools.inLock(15);
        Tools.step(due, x, 0, 4);
        Tools.ways(due, "from the pass", x, 0, 0, 0, 0, 0, ASTRAY, ASTRAY);
    }

    @Sentence("Without any: to the lock; from 2 and 3 to the pass.")
    static void waysWithoutVisitsLeft(Due due) {
        for (int chamber = 0; chamber < 4; chamber++) {
            ClusterTool x = Tools.inLock(1 << chamber);
            Tools.bring(due, x, 0, chamber);
            boolean back = chamber >= 2;
            Tools.ways(due, "home from " + chamber, x, 0, ASTRAY, ASTRAY, ASTRAY, ASTRAY,
                    back ? 0 : ASTRAY, back ? ASTRAY : 0);
            if (back) {
                Tools.step(due, x, 0, 4);
                Tools.ways(due, "home from the pass", x, 0, ASTRAY, ASTRAY, ASTRAY, ASTRAY, ASTRAY, 0);
            }
        }
    }

    @Sentence("leads from the place where it is to another one (or, for a new visit, to the same chamber)")
    static void toAnotherPlaceOrAgain(Due due) {
        due.same("lock to lock: may(0, 5)", Tools.inLock(15).may(0, 5), ASTRAY);
        ClusterTool x = Tools.inLock(15);
        Tools.step(due, x, 0, 4);
        due.same("pass to pass: may(0, 4)", x.may(0, 4), ASTRAY);
        for (int chamber = 0; chamber < 4; chamber++) {
            ClusterTool again = Tools.between(due, chamber, 1 << chamber);
            due.same("a new visit in " + chamber, again.may(0, chamber), 0);
            Tools.step(due, again, 0, chamber);
            due.same("no visit left in " + chamber, again.may(0, chamber), ASTRAY);
            int other = 15 - (1 << chamber);
            due.same("not in the mask: " + chamber, Tools.between(due, chamber, other).may(0, chamber), ASTRAY);
        }
    }

    @Sentence("no way leads into one or out of one")
    static void noWayIntoOrOutOfDownChambers(Due due) {
        ClusterTool x = Tools.inLock(3);
        x.down(0, true);
        Tools.ways(due, "0 is down", x, 0, ASTRAY, 0, ASTRAY, ASTRAY, ASTRAY, ASTRAY);
        for (int chamber = 0; chamber < 4; chamber++) {
            ClusterTool y = Tools.between(due, chamber, 15);
            y.down(chamber, true);
            Tools.ways(due, chamber + " is down", y, 0, ASTRAY, ASTRAY, ASTRAY, ASTRAY, ASTRAY, ASTRAY);
        }
    }

    /** A way to the pass asks for a chamber in the mask, down or up: what is due is UNSAFE or 0, not ASTRAY. */
    @Sentence("from a chamber or the lock to the pass when the mask has a chamber that the other robot alone reaches "
            + "(for a wafer in the lock or in 0, 1: chamber 2 or 3; in 2, 3: chamber 0 or 1)")
    static void downChambersLeaveTheWayToThePass(Due due) {
        for (int chamber = 0; chamber < 4; chamber++) {
            for (int other = 0; other < 4; other++) {
                boolean acrossThePass = chamber < 2 != other < 2;
                ClusterTool alone = Tools.between(due, chamber, 1 << other);
                ClusterTool both = Tools.between(due, chamber, 1 << other | 1 << chamber);
                alone.down(other, true);
                both.down(other, true);
                String where = "from " + chamber + ", " + other + " is down: may(0, 4)";
                if (acrossThePass) {
                    due.same("for it alone " + where, alone.may(0, 4), UNSAFE);
                    due.same("for it or the same again " + where, both.may(0, 4), 0);
                } else {
                    due.same("for it alone " + where, alone.may(0, 4), ASTRAY);
                    due.same("for it or the same again " + where, both.may(0, 4), ASTRAY);
                }
            }
        }
        ClusterTool alone = Tools.inLock(4);
        alone.down(2, true);
        due.same("from the lock for 2 alone, which is down: may(0, 4)", alone.may(0, 4), UNSAFE);
        ClusterTool both = Tools.inLock(5);
        both.down(2, true);
        due.same("from the lock for 0 or 2, which is down: may(0, 4)", both.may(0, 4), 0);
    }

    /** Down comes before taken, as there is no way, and after unready. */
    @Sentence("Chambers may be DOWN: no way leads into one or out of one, and nothing goes on there: "
            + "no time of a visit or limit passes in it.")
    static void downAmongTheReasons(Due due) {
        for (int chamber = 0; chamber < 4; chamber++) {
            int side = chamber < 2 ? 3 : 12;
            ClusterTool x = Tools.with(Tools.visit(0, 1 << chamber, 2, 0), Tools.visit(0, side, 1, 0),
                    Tools.visit(1, side, 1, 0));
            Tools.load(x, 0, 1);
            Tools.bring(due, x, 0, chamber);
            if (chamber >= 2) {
                x.down(chamber, true);
                Tools.step(due, x, 1, 4);
            }
            x.down(chamber, true);
            allUnready(due, "its visit goes on in " + chamber, x, 0);
            due.same("taken, and down: may(1, " + chamber + ")", x.may(1, chamber), ASTRAY);
            due.same("the other one: may(1, " + (chamber ^ 1) + ")", x.may(1, chamber ^ 1), 0);
            x.down(chamber, false);
            due.same("taken, and up: may(1, " + chamber + ")", x.may(1, chamber), TAKEN);
            x.tick(1);
            x.down(chamber, true);
            Tools.ways(due, "ready in " + chamber, x, 0, ASTRAY, ASTRAY, ASTRAY, ASTRAY, ASTRAY, ASTRAY);
        }
    }

    @Sentence("TAKEN there is a wafer in that place (another one)")
    static void taken(Due due) {
        for (int chamber = 0; chamber < 4; chamber++) {
            ClusterTool x = Tools.routes(Tools.masks(1 << chamber), Tools.masks(chamber < 2 ? 3 : 12));
            Tools.load(x, 0, 1);
            Tools.bring(due, x, 0, chamber);
            if (chamber >= 2) {
                Tools.step(due, x, 1, 4);
            }
            due.same("wafer 0 is in " + chamber, x.may(1, chamber), TAKEN);
            due.same("the other chamber is free", x.may(1, chamber ^ 1), 0);
        }
        ClusterTool y = Tools.inLock(12);
        Tools.load(y, 0, 0);
        Tools.bring(due, y, 0, 2);
        Tools.step(due, y, 1, 4);
        due.same("from the lock to the pass", y.may(2, 4), TAKEN);
        due.same("from a chamber to the pass", y.may(0, 4), TAKEN);
    }

    @Sentence("TAKEN there is a wafer in that place (another one)")
    static void notTakenByItself(Due due) {
        for (int chamber = 0; chamber < 4; chamber++) {
            ClusterTool x = Tools.between(due, chamber, 15);
            due.same("again in " + chamber, x.may(0, chamber), 0);
        }
    }

    @Sentence("in the lock there are as many as one likes")
    static void lockIsNeverTaken(Due due) {
        ClusterTool x = Tools.inLock(3);
        for (int wafer = 1; wafer < 25; wafer++) {
            x.load(0);
        }
        for (int wafer = 0; wafer < 25; wafer++) {
            Tools.step(due, x, wafer, wafer % 2);
            due.same("others are in the lock: may(" + wafer + ", 5)", x.may(wafer, 5), 0);
            Tools.step(due, x, wafer, 5);
        }
        due.same("all are in the lock: count(1)", x.count(1), 25);
    }

    @Sentence("UNSAFE the situation after it could not be emptied")
    static void unsafe(Due due) {
        ClusterTool x = ring();
        Tools.step(due, x, 0, 0);
        due.same("each would wait for the other's chamber: may(1, 1)", x.may(1, 1), UNSAFE);
        Tools.step(due, x, 0, 1);
        due.same("it has left 0: may(0, 5)", x.may(0, 5), 0);
        Tools.step(due, x, 0, 5);
        due.same("it is out of the way: may(1, 1)", x.may(1, 1), 0);
    }

    /**
     * Wafer 2 waits in the pass for chambers that went down. No other move lets it out, so that none is made, not
     * even one that takes a wafer home, until one of these chambers is up.
     */
    @Sentence("UNSAFE the situation after it could not be emptied")
    static void allIsUnsafeWhereOneIsStuck(Due due) {
        ClusterTool x = Tools.routes(Tools.masks(1), Tools.masks(12));
        Tools.load(x, 0, 0, 1);
        Tools.step(due, x, 0, 0);
        Tools.step(due, x, 2, 4);
        x.down(2, true);
        due.same("3 is up: may(0, 5)", x.may(0, 5), 0);
        x.down(3, true);
        due.same("home: may(0, 5)", x.may(0, 5), UNSAFE);
        due.same("taken: may(1, 0)", x.may(1, 0), TAKEN);
        due.same("astray: may(2, 2)", x.may(2, 2), ASTRAY);
        x.down(0, true);
        due.same("no way out: may(0, 5)", x.may(0, 5), ASTRAY);
        x.down(0, false);
        x.down(3, false);
        due.same("3 is up again: may(0, 5)", x.may(0, 5), 0);
        due.same("3 is up again: may(2, 3)", x.may(2, 3), 0);
    }

    /** Route 0 visits chamber 0 and then 1, route 1 the other way round. */
    private static ClusterTool ring() {
        ClusterTool x = Tools.routes(Tools.masks(1, 2), Tools.masks(2, 1));
        Tools.load(x, 0, 1);
        return x;
    }

    @Sentence("BUSY the robot that reaches both places has made a move in this tick")
    static void busy(Due due) {
        ClusterTool x = Tools.routes(Tools.masks(3), Tools.masks(12, 12));
        Tools.load(x, 0, 0, 1, 1);
        Tools.moved(due, x, 0, 0);
        due.same("front: may(1, 1)", x.may(1, 1), BUSY);
        due.same("front: may(2, 4)", x.may(2, 4), BUSY);
        x.tick(1);
        Tools.moved(due, x, 2, 4);
        due.same("the back robot has made none: may(2, 2)", x.may(2, 2), 0);
        due.same("front: may(0, 5)", x.may(0, 5), BUSY);
        Tools.step(due, x, 2, 2);
        Tools.step(due, x, 3, 4);
        Tools.moved(due, x, 2, 3);
        due.same("back: may(3, 2)", x.may(3, 2), BUSY);
        due.same("the front robot has made none: may(0, 5)", x.may(0, 5), 0);
    }

    /** In each row one more reason holds than in the one below, and the first of them is told. */
    @Sentence("otherwise the first that is so")
    static void unreadyBeforeAll(Due due) {
        ClusterTool x = Tools.with(Tools.visit(0, 1, 2, 0), Tools.visit(0, 2, 1, 0), Tools.visit(1, 2, 1, 0));
        Tools.load(x, 0, 1);
        Tools.step(due, x, 0, 0);
        Tools.moved(due, x, 1, 1);
        due.same("unready, astray and busy: may(0, 0)", x.may(0, 0), UNREADY);
        due.same("unready, taken and busy: may(0, 1)", x.may(0, 1), UNREADY);
        x.tick(1);
        due.same("astray: may(0, 0)", x.may(0, 0), ASTRAY);
        due.same("taken: may(0, 1)", x.may(0, 1), TAKEN);
    }

    @Sentence("otherwise the first that is so")
    static void unreadyBeforeUnsafe(Due due) {
        ClusterTool x = Tools.with(Tools.visit(0, 1, 2, 0), Tools.visit(0, 4, 1, 0), Tools.visit(1, 4, 1, 0),
                Tools.visit(1, 3, 1, 0));
        Tools.load(x, 1, 0);
        Tools.bring(due, x, 0, 2);
        Tools.step(due, x, 1, 0);
        due.same("unready, and unsafe: may(1, 4)", x.may(1, 4), UNREADY);
        x.tick(1);
        due.same("wafer 0 could not leave 2 any more: may(1, 4)", x.may(1, 4), UNSAFE);
    }

    @Sentence("otherwise the first that is so")
    static void astrayBeforeTakenUnsafeAndBusy(Due due) {
        ClusterTool x = Tools.routes(Tools.masks(1), Tools.masks(3));
        Tools.load(x, 0, 1, 0);
        Tools.step(due, x, 0, 0);
        Tools.moved(due, x, 1, 1);
        due.same("1 is not in the mask, and taken: may(2, 1)", x.may(2, 1), ASTRAY);
        due.same("0 is: may(2, 0)", x.may(2, 0), TAKEN);
        due.same("no way to 3, and busy: may(2, 3)", x.may(2, 3), ASTRAY);
        x.down(0, true);
        due.same("0 is down, and taken: may(2, 0)", x.may(2, 0), ASTRAY);
        ClusterTool y = stuckInThePass();
        due.same("no way to 1, and all is unsafe: may(1, 1)", y.may(1, 1), ASTRAY);
        due.same("a way to 0: may(1, 0)", y.may(1, 0), UNSAFE);
    }

    /** Wafer 0 waits in the pass for a chamber that went down; wafers of route 1 go to chamber 0. */
    private static ClusterTool stuckInThePass() {
        ClusterTool x = Tools.routes(Tools.masks(4), Tools.masks(1));
        Tools.load(x, 0, 1, 0);
        x.move(0, 4);
        x.tick(1);
        x.down(2, true);
        return x;
    }

    @Sentence("otherwise the first that is so")
    static void takenBeforeUnsafeAndBusy(Due due) {
        due.same("taken, and unsafe: may(2, 4)", stuckInThePass().may(2, 4), TAKEN);
        ClusterTool x = Tools.inLock(4);
        x.load(0);
        Tools.moved(due, x, 0, 4);
        due.same("taken, and busy: may(1, 4)", x.may(1, 4), TAKEN);
    }

    @Sentence("otherwise the first that is so")
    static void unsafeBeforeBusy(Due due) {
        ClusterTool x = ring();
        Tools.moved(due, x, 0, 0);
        due.same("unsafe, and busy: may(1, 1)", x.may(1, 1), UNSAFE);
        x.tick(1);
        due.same("unsafe: may(1, 1)", x.may(1, 1), UNSAFE);
        Tools.step(due, x, 0, 1);
        Tools.moved(due, x, 0, 5);
        due.same("busy: may(1, 1)", x.may(1, 1), BUSY);
        x.tick(1);
        due.same("neither: may(1, 1)", x.may(1, 1), 0);
    }

    @Sentence("What answers NONE or false, or why a move is not made, changes nothing.")
    static void askingChangesNothing(Due due) {
        Twins.same(due, Promise04Test::someMoves, Promise04Test::askAll);
    }

    private static void someMoves(ClusterTool x) {
        x.visit(0, 1, 2, 1);
        x.visit(0, 6, 2, 0);
        x.visit(1, 8, 3, 1);
        Tools.load(x, 0, 1, 0);
        x.move(1, 4);
        x.move(1, 3);
        x.tick(1);
        x.move(0, 0);
    }

    private static void askAll(ClusterTool x) {
        for (int wafer = -1; wafer <= 3; wafer++) {
            for (int place = -1; place <= 6; place++) {
                x.may(wafer, place);
            }
        }
    }
}
