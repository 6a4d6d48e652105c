import java.util.function.Consumer;

/** Two tools that are told the same, but for some calls that one of them alone is told. */
final class Twins {
    private static final int STEPS = 60;

    private Twins() {
    }

    /** The calls in between are those that change nothing: then no later call can tell the two apart. */
    static void same(Due due, Consumer<ClusterTool> before, Consumer<ClusterTool> between,
            Consumer<ClusterTool> after) {
        ClusterTool told = new ClusterTool();
        ClusterTool untold = new ClusterTool();
        before.accept(told);
        before.accept(untold);
        between.accept(told);
        after.accept(told);
        after.accept(untold);
        due.same("all that can be asked", picture(told), picture(untold));
        due.same("what happens then", course(told), course(untold));
        due.same("all that can be asked at the end", picture(told), picture(untold));
    }

    static void same(Due due, Consumer<ClusterTool> before, Consumer<ClusterTool> between) {
        same(due, before, between, x -> { });
    }

    /** The answers of all calls that change nothing. */
    static String picture(ClusterTool x) {
        StringBuilder seen = new StringBuilder();
        for (int i = 0; i < 6; i++) {
            seen.append(x.count(i)).append(' ').append(x.in(i)).append(' ');
        }
        seen.append(x.safe()).append(' ').append(x.next());
        int wafers = x.count(0);
        for (int wafer = 0; wafer < wafers; wafer++) {
            seen.append(" wafer ").append(wafer).append(':');
            seen.append(x.place(wafer)).append(' ').append(x.stage(wafer)).append(' ');
            seen.append(x.left(wafer)).append(' ').append(x.stay(wafer));
            for (int i = 0; i < 3; i++) {
                seen.append(' ').append(x.visited(wafer, i));
                seen.append(' ').append(x.when(wafer, i, false)).append(' ').append(x.when(wafer, i, true));
            }
            for (int place = 0; place < 6; place++) {
                seen.append(' ').append(x.may(wafer, place));
            }
        }
        return seen.toString();
    }

    /** All chambers go up, and the wafers go through what their routes still have for them. */
    private static String course(ClusterTool x) {
        StringBuilder seen = new StringBuilder();
        for (int chamber = 0; chamber < 4; chamber++) {
            seen.append(x.down(chamber, false)).append(' ');
        }
        for (int step = 0; step < STEPS; step++) {
            seen.append(x.go()).append(' ').append(x.tick(1 + step % 3)).append(' ');
        }
        return seen.toString();
    }
}
