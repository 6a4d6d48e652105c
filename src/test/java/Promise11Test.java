/** Promise 11: in. */
public final class Promise11Test {
    private Promise11Test() {
    }

    public static void main(String[] args) {
        Sentences.test(Promise11Test.class);
    }

    @Sentence("The wafer in a chamber or the pass")
    static void theWaferInEachPlace(Due due) {
        ClusterTool x = Tools.inLock(15);
        Tools.load(x, 0, 0, 0, 0);
        Tools.bring(due, x, 0, 3);
        Tools.bring(due, x, 1, 2);
        Tools.step(due, x, 2, 1);
        Tools.step(due, x, 3, 0);
        Tools.step(due, x, 4, 4);
        int[] wafers = {3, 2, 1, 0, 4};
        for (int place = 0; place < 5; place++) {
            due.same("in(" + place + ")", x.in(place), wafers[place]);
        }
        x.down(3, true);
        due.same("in a chamber that is down: in(3)", x.in(3), 0);
    }

    @Sentence("NONE when there is none")
    static void noneWhenThereIsNone(Due due) {
        ClusterTool x = Tools.between(due, 1, 4);
        for (int place : new int[] {4, 2, 4, 5}) {
            int from = x.place(0);
            for (int other = 0; other <= 4; other++) {
                due.same("in(" + other + ")", x.in(other), other == from ? 0 : Tools.NONE);
            }
            Tools.step(due, x, 0, place);
        }
        for (int other = 0; other <= 4; other++) {
            due.none("finished: in(" + other + ")", x.in(other));
        }
    }

    @Sentence("or no such place (for the lock, too)")
    static void noSuchPlaceAndTheLock(Due due) {
        ClusterTool x = Tools.inLock(1);
        x.load(0);
        Tools.step(due, x, 0, 0);
        for (int place : new int[] {-1, 6, 7, 8, -6, Tools.LEAST, Tools.MOST}) {
            due.none("in(" + place + ")", x.in(place));
        }
        due.none("a new wafer is in the lock: in(5)", x.in(5));
        Tools.step(due, x, 0, 5);
        due.none("a finished one, too: in(5)", x.in(5));
    }
}
