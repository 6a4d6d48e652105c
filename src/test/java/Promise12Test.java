/** Promise 12: place. */
public final class Promise12Test {
    private Promise12Test() {
    }

    public static void main(String[] args) {
        Sentences.test(Promise12Test.class);
    }

    @Sentence("The place of a wafer")
    static void thePlaceAllTheWay(Due due) {
        ClusterTool x = Tools.routes(Tools.masks(1, 2, 8), Tools.masks(3));
        Tools.load(x, 0, 1);
        due.same("at first: place(0)", x.place(0), 5);
        for (int place : new int[] {0, 1, 4, 3, 4, 5}) {
            Tools.step(due, x, 0, place);
            due.same("place(0)", x.place(0), place);
            due.same("the other one: place(1)", x.place(1), 5);
        }
    }

    @Sentence("The place of a wafer")
    static void thePlaceInEachChamber(Due due) {
        for (int chamber = 0; chamber < 4; chamber++) {
            ClusterTool x = Tools.between(due, chamber, 15);
            due.same("place(0)", x.place(0), chamber);
            x.down(chamber, true);
            due.same("down: place(0)", x.place(0), chamber);
        }
    }

    @Sentence("It is in the lock at first")
    static void inTheLockAtFirst(Due due) {
        ClusterTool x = Tools.routes(Tools.masks(1), Tools.masks());
        for (int wafer = 0; wafer < 25; wafer++) {
            x.load(wafer % 2);
            due.same("place(" + wafer + ")", x.place(wafer), 5);
        }
    }

    @Sentence("NONE: no such wafer.")
    static void noSuchWafer(Due due) {
        due.none("no wafers: place(0)", new ClusterTool().place(0));
        ClusterTool x = Tools.inLock(1);
        x.load(1);
        for (int wafer : new int[] {-1, 2, 3, 24, 25, 26, Tools.LEAST, Tools.MOST}) {
            due.none("place(" + wafer + ")", x.place(wafer));
        }
        due.same("the last: place(1)", x.place(1), 5);
        for (int wafer = 2; wafer < 25; wafer++) {
            x.load(0);
        }
        due.same("the last of 25: place(24)", x.place(24), 5);
        due.none("place(25)", x.place(25));
        due.none("place(-1)", x.place(-1));
    }
}
