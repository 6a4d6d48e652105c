/** Promise 6: next. */
public final class Promise06Test {
    private Promise06Test() {
    }

    public static void main(String[] args) {
        Sentences.test(Promise06Test.class);
    }

    /** A visit of one tick for each route; wafer 0, of route 0, is in 0 a tick longer than wafer 1 in 1. */
    private static ClusterTool bothInFront(Due due, int limit0, int limit1) {
        ClusterTool x = Tools.with(Tools.visit(0, 1, 1, limit0), Tools.visit(1, 2, 1, limit1));
        Tools.load(x, 0, 1);
        Tools.step(due, x, 0, 0);
        Tools.step(due, x, 1, 1);
        return x;
    }

    @Sentence("The move that is made next: 8 times the wafer and the place")
    static void eightTimesTheWaferAndThePlace(Due due) {
        due.same("wafer 0 to 0: next()", Tools.inLock(1).next(), 0);
        due.same("wafer 0 to 1: next()", Tools.inLock(2).next(), 1);
        due.same("wafer 0 to 4: next()", Tools.inLock(4).next(), 4);
        ClusterTool x = Tools.routes(Tools.masks(2), Tools.masks());
        for (int wafer = 0; wafer < 24; wafer++) {
            x.load(1);
        }
        x.load(0);
        due.same("the last wafer to 1: next()", x.next(), 8 * 24 + 1);
        Tools.step(due, x, 24, 1);
        due.same("the last wafer to the lock: next()", x.next(), 8 * 24 + 5);
    }

    @Sentence("NONE when none can be made.")
    static void noneWhenThereAreNoWafersOrAllAreFinished(Due due) {
        due.none("no wafers: next()", new ClusterTool().next());
        ClusterTool x = new ClusterTool();
        x.load(0);
        due.none("no visits: next()", x.next());
        ClusterTool y = Tools.inLock(1);
        Tools.step(due, y, 0, 0);
        Tools.step(due, y, 0, 5);
        due.none("come back: next()", y.next());
    }

    /** One wafer whose move is refused for one reason after the other. */
    @Sentence("NONE when none can be made.")
    static void noneForEachReason(Due due) {
        ClusterTool unready = Tools.inLock(1);
        Tools.moved(due, unready, 0, 0);
        due.none("unready: next()", unready.next());
        ClusterTool astray = Tools.inLock(3);
        astray.down(0, true);
        due.same("1 is up: next()", astray.next(), 1);
        astray.down(1, true);
        due.none("astray: next()", astray.next());
        ClusterTool taken = Tools.with(Tools.visit(0, 1, 2, 0));
        Tools.load(taken, 0, 0);
        Tools.step(due, taken, 0, 0);
        due.none("unready and taken: next()", taken.next());
        ClusterTool unsafe = Tools.inLock(4);
        unsafe.down(2, true);
        due.same("may(0, 4)", unsafe.may(0, 4), Tools.UNSAFE);
        due.none("unsafe: next()", unsafe.next());
        ClusterTool busy = Tools.with(Tools.visit(0, 3, 2, 0));
        Tools.load(busy, 0, 0);
        Tools.moved(due, busy, 0, 0);
        due.same("may(1, 1)", busy.may(1, 1), Tools.BUSY);
        due.none("busy: next()", busy.next());
    }

    @Sentence("Of all that can be (may() answers 0)")
    static void onlyWhatCanBeMade(Due due) {
        ClusterTool x = Tools.routes(Tools.masks(1, 2), Tools.masks(2, 1));
        Tools.load(x, 0, 1, 0);
        Tools.step(due, x, 0, 0);
        due.same("wafer 1 is unsafe, wafer 0 goes on: next()", x.next(), 1);
        Tools.step(due, x, 0, 1);
        due.same("home: next()", x.next(), 5);
        Tools.moved(due, x, 0, 5);
        due.none("busy: next()", x.next());
        x.tick(1);
        due.same("wafer 1: next()", x.next(), 8 + 1);
        x.down(1, true);
        due.none("wafer 1 is astray, wafer 2 unsafe: next()", x.next());
    }

    @Sentence("those of wafers in chambers and the pass come before those of wafers in the lock")
    static void insideBeforeTheLock(Due due) {
        ClusterTool x = Tools.routes(Tools.masks(2), Tools.masks(1));
        Tools.load(x, 0, 1);
        due.same("all in the lock: next()", x.next(), 1);
        Tools.step(due, x, 1, 0);
        due.same("in a chamber: next()", x.next(), 8 + 5);
        ClusterTool y = Tools.routes(Tools.masks(2), Tools.masks(4));
        Tools.load(y, 0, 1);
        Tools.step(due, y, 1, 4);
        due.same("in the pass: next()", y.next(), 8 + 2);
    }

    @Sentence("of these, of wafers whose time to the limit (stay()) is less")
    static void lessTimeToTheLimitFirst(Due due) {
        ClusterTool x = bothInFront(due, 9, 7);
        due.same("stay(0)", x.stay(0), 8);
        due.same("stay(1)", x.stay(1), 7);
        due.same("7 before 8: next()", x.next(), 8 + 5);
        due.same("0 before 98: next()", later(bothInFront(due, 100, 1), 1).next(), 8 + 5);
        due.same("0 before 1: next()", later(bothInFront(due, 3, 1), 1).next(), 8 + 5);
        due.same("1 before 99: next()", bothInFront(due, 100, 1).next(), 8 + 5);
    }

    private static ClusterTool later(ClusterTool x, int ticks) {
        x.tick(ticks);
        return x;
    }

    @Sentence("those without coming last")
    static void withoutALimitLast(Due due) {
        due.same("100 before none: next()", bothInFront(due, 0, 100).next(), 8 + 5);
        due.same("late before none: next()", later(bothInFront(due, 0, 1), 50).next(), 8 + 5);
        ClusterTool x = bothInFront(due, 0, 0);
        due.same("none and none: next()", x.next(), 5);
        x.load(1);
        Tools.step(due, x, 1, 5);
        due.same("none, but not in the lock: next()", x.next(), 5);
        ClusterTool y = Tools.with(Tools.visit(0, 4, 1, 0), Tools.visit(1, 1, 1, 100));
        Tools.load(y, 0, 1);
        Tools.step(due, y, 1, 0);
        Tools.step(due, y, 0, 4);
        due.same("none in the pass: next()", y.next(), 8 + 5);
    }

    /** A second visit of 100 ticks and a limit of 100 is the longest time to a limit that there is. */
    @Sentence("those without coming last")
    static void withoutALimitAfterTheLongest(Due due) {
        ClusterTool x = Tools.with(Tools.visit(0, 1, 1, 0), Tools.visit(1, 2, 100, 100));
        Tools.load(x, 0, 1);
        Tools.step(due, x, 0, 0);
        Tools.moved(due, x, 1, 1);
        due.same("stay(1)", x.stay(1), 200);
        x.tick(1);
        due.same("it is not ready: next()", x.next(), 5);
        x.tick(99);
        due.same("it is: next()", x.next(), 8 + 5);
    }

    @Sentence("then lower wafers")
    static void lowerWafers(Due due) {
        due.same("8 and 8 to the limit: next()", bothInFront(due, 9, 8).next(), 5);
        due.same("both late: next()", later(bothInFront(due, 1, 1), 50).next(), 5);
        ClusterTool x = Tools.routes(Tools.masks(2), Tools.masks(1));
        Tools.load(x, 0, 1);
        due.same("wafer 0 to 1 before wafer 1 to 0: next()", x.next(), 1);
        x.down(1, true);
        due.same("wafer 1 to 0: next()", x.next(), 8);
        ClusterTool y = Tools.routes(Tools.masks(1), Tools.masks(4));
        Tools.load(y, 1, 0);
        Tools.step(due, y, 1, 0);
        Tools.step(due, y, 0, 4);
        due.same("wafer 0 in the pass before wafer 1 in 0: next()", y.next(), 2);
    }

    @Sentence("then lower places")
    static void lowerPlaces(Due due) {
        ClusterTool x = Tools.inLock(15);
        int[] places = {0, 1, 4};
        for (int place : places) {
            due.same("the lowest that is left: next()", x.next(), place);
            if (place < 4) {
                x.down(place, true);
            }
        }
        ClusterTool y = Tools.between(due, 3, 15);
        for (int place : new int[] {2, 3}) {
            due.same("from 3: next()", y.next(), place);
            y.down(place, true);
        }
        due.none("3 is down: next()", y.next());
        ClusterTool z = Tools.inLock(15);
        Tools.step(due, z, 0, 4);
        for (int place = 0; place < 4; place++) {
            due.same("from the pass: next()", z.next(), place);
            z.down(place, true);
        }
        due.none("all are down: next()", z.next());
    }

    @Sentence("What answers NONE or false, or why a move is not made, changes nothing.")
    static void askingChangesNothing(Due due) {
        Twins.same(due, Promise06Test::someWafers, x -> {
            for (int i = 0; i < 5; i++) {
                due.same("next()", x.next(), 1);
            }
        });
        Twins.same(due, Promise06Test::someBusyWafers, x -> due.none("next()", x.next()));
    }

    private static void someWafers(ClusterTool x) {
        x.visit(0, 2, 2, 1);
        x.visit(0, 4, 2, 0);
        x.visit(1, 8, 1, 0);
        Tools.load(x, 0, 1, 0);
    }

    private static void someBusyWafers(ClusterTool x) {
        someWafers(x);
        x.move(0, 1);
    }
}
