/** Promise 14: visited. */
public final class Promise14Test {
    private Promise14Test() {
    }

    public static void main(String[] args) {
        Sentences.test(Promise14Test.class);
    }

    @Sentence("The chamber of visit i of a wafer, from 0")
    static void theChamberOfEachVisit(Due due) {
        ClusterTool x = Tools.routes(Tools.masks(15, 15, 15), Tools.masks());
        x.load(0);
        for (int place : new int[] {1, 4, 3, 3, 4, 5}) {
            Tools.moved(due, x, 0, place);
            if (place < 4) {
                due.same("begun, not over: visited", x.visited(0, x.stage(0) - 1), place);
            }
            x.tick(1);
        }
        int[] chambers = {1, 3, 3};
        for (int i = 0; i < 3; i++) {
            due.same("visited(0, " + i + ")", x.visited(0, i), chambers[i]);
        }
        for (int chamber = 0; chamber < 4; chamber++) {
            due.same("visited(0, 0)", Tools.between(due, chamber, 1).visited(0, 0), chamber);
        }
    }

    @Sentence("NONE: it has not begun such a one.")
    static void notBegun(Due due) {
        ClusterTool x = Tools.routes(Tools.masks(3, 3, 3), Tools.masks());
        Tools.load(x, 0, 1);
        for (int stage = 0; stage <= 3; stage++) {
            for (int i = 0; i <= 4; i++) {
                due.same("stage " + stage + ": visited(0, " + i + ")", x.visited(0, i),
                        i < stage ? i % 2 : Tools.NONE);
            }
            if (stage < 3) {
                Tools.step(due, x, 0, stage % 2);
            }
        }
        due.none("without visits: visited(1, 0)", x.visited(1, 0));
    }

    @Sentence("NONE: it has not begun such a one.")
    static void noSuchVisitOrWafer(Due due) {
        ClusterTool x = Tools.between(due, 0, 1);
        x.load(0);
        for (int i : new int[] {-1, 1, 2, 3, 4, -3, Tools.LEAST, Tools.MOST}) {
            due.none("visited(0, " + i + ")", x.visited(0, i));
        }
        for (int wafer : new int[] {-1, 2, 24, 25, Tools.LEAST, Tools.MOST}) {
            due.none("visited(" + wafer + ", 0)", x.visited(wafer, 0));
        }
        due.none("visited(-1, -1)", x.visited(-1, -1));
        due.none("begun none: visited(1, 0)", x.visited(1, 0));
    }
}
