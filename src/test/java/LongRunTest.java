/** Runs of as many calls as an object is used for. */
public final class LongRunTest {
    private static final int CALLS = 512;

    private LongRunTest() {
    }

    public static void main(String[] args) {
        Sentences.test(LongRunTest.class);
    }

    @Sentence("An object is used for at most 512 calls after it has been made")
    static void ticksAlone(Due due) {
        ClusterTool x = new ClusterTool();
        for (int call = 1; call < CALLS; call++) {
            due.same("tick(200)", x.tick(200), 0);
        }
        due.same("the last call: count(5)", x.count(5), (CALLS - 1) * 200);
    }

    @Sentence("An object is used for at most 512 calls after it has been made")
    static void aVisitAtTheEndOfTheTime(Due due) {
        ClusterTool x = Tools.with(Tools.visit(0, 1, 100, 100));
        x.load(0);
        int clock = 0;
        for (int call = 3; call <= CALLS - 7; call++) {
            x.tick(200);
            clock += 200;
        }
        Tools.moved(due, x, 0, 0);
        due.same("tick(200)", x.tick(200), 0);
        due.same("tick(1)", x.tick(1), 1);
        due.same("when(0, 0, false)", x.when(0, 0, false), clock);
        due.same("when(0, 0, true)", x.when(0, 0, true), clock + 100);
        due.same("move(0, 5)", x.move(0, 5), 0);
        due.same("the last call: count(5)", x.count(5), clock + 201);
    }

    /** A wafer that is late from the first on, in the longest stay that there can be. */
    @Sentence("An object is used for at most 512 calls after it has been made")
    static void theLongestStay(Due due) {
        ClusterTool x = Tools.with(Tools.visit(0, 1, 1, 100));
        x.load(0);
        Tools.moved(due, x, 0, 0);
        due.same("the first: tick(200)", x.tick(200), 1);
        for (int call = 5; call <= CALLS - 2; call++) {
            due.same("tick(200)", x.tick(200), 0);
        }
        due.same("stay(0)", x.stay(0), 0);
        due.same("the last call: count(2)", x.count(2), 1);
    }

    @Sentence("An object is used for at most 512 calls after it has been made")
    static void twentyFiveWafers(Due due) {
        ClusterTool x = Tools.with(Tools.visit(0, 3, 2, 1), Tools.visit(0, 12, 3, 2), Tools.visit(1, 12, 1, 1),
                Tools.visit(1, 15, 2, 0));
        PlainModel model = new PlainModel();
        model.visit(0, 3, 2, 1);
        model.visit(0, 12, 3, 2);
        model.visit(1, 12, 1, 1);
        model.visit(1, 15, 2, 0);
        for (int wafer = 0; wafer < 25; wafer++) {
            due.same("load(" + wafer % 2 + ")", x.load(wafer % 2), model.load(wafer % 2));
        }
        for (int call = 4 + 25 + 1; call <= CALLS; call++) {
            if (call % 2 == 0) {
                due.same("call " + call + ": go()", x.go(), model.go());
            } else {
                due.same("call " + call + ": tick(1)", x.tick(1), model.tick(1));
            }
        }
        due.same("all came back in these calls", model.count(1), 25);
    }

    /** What can be emptied has to be found out anew at every second call. */
    @Sentence("An object is used for at most 512 calls after it has been made")
    static void downAndUpAllTheTime(Due due) {
        ClusterTool x = Tools.inLock(12);
        Tools.moved(due, x, 0, 4);
        for (int call = 4; call + 3 <= CALLS; call += 4) {
            boolean is = call % 8 == 4;
            due.same("down(2, " + is + ")", x.down(2, is), true);
            due.same("3 is up: safe()", x.safe(), true);
            due.same("down(3, " + is + ")", x.down(3, is), true);
            due.same("safe()", x.safe(), !is);
        }
    }

    /** ../shared/LANGUAGE.md, rule 7: no call may ever throw, whatever it answers. */
    @Sentence("what later calls answer is free")
    static void laterCallsEndWithoutAThrow(Due due) {
        ClusterTool x = Tools.routes(Tools.masks(3, 12, 3), Tools.masks(12, 3, 12));
        int[] values = {Tools.LEAST, -1, 0, 1, 2, 3, 4, 5, 6, 24, 25, 200, 201, Tools.MOST};
        int rounds = 0;
        while (rounds < 4 * CALLS) {
            int a = values[rounds % values.length];
            int b = values[rounds / 3 % values.length];
            callAll(x, a, b, rounds % 5 == 0);
            rounds++;
        }
        due.same("how many rounds came to their end", rounds, 4 * CALLS);
    }

    private static void callAll(ClusterTool x, int a, int b, boolean is) {
        x.visit(a, b, a, b);
        x.load(a);
        x.may(a, b);
        x.move(a, b);
        x.next();
        x.go();
        x.tick(b);
        x.down(a, is);
        x.safe();
        x.in(a);
        x.place(a);
        x.stage(a);
        x.visited(a, b);
        x.when(a, b, is);
        x.left(a);
        x.stay(a);
        x.count(a);
    }
}
