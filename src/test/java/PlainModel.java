import java.util.ArrayList;
import java.util.HashMap;
import java.util.List;
import java.util.Map;

/**
 * The document told once more, as slowly as it is written: ticks one by one, situations as texts,
 * ways from lists of what each robot reaches. ModelTest holds the program against it.
 */
final class PlainModel {
    private static final int PASS = 4;
    private static final int LOCK = 5;
    private static final List<Integer> FRONT = List.of(0, 1, 4, 5);
    private static final List<Integer> BACK = List.of(2, 3, 4);

    private static final class Visit {
        int mask;
        int time;
        int limit;
    }

    private static final class Wafer {
        List<Visit> route;
        int place = LOCK;
        int stage = 0;
        boolean cameBack = false;
        boolean late = false;
        int ticksInChamber = 0;
        List<Integer> chambers = new ArrayList<>();
        List<Integer> begins = new ArrayList<>();
        List<Integer> ends = new ArrayList<>();

        boolean isFinished() {
            return cameBack || route.isEmpty();
        }

        boolean isInChamber() {
            return place < PASS;
        }

        Visit visit() {
            return route.get(stage - 1);
        }
    }

    private final List<List<Visit>> routes = List.of(new ArrayList<>(), new ArrayList<>());
    private final List<Wafer> wafers = new ArrayList<>();
    private final boolean[] downs = new boolean[4];
    private final boolean[] moved = new boolean[2];
    private final int[] moves = new int[2];
    private int clock = 0;

    int visit(int route, int mask, int time, int limit) {
        boolean good = (route == 0 || route == 1) && mask >= 1 && mask <= 15 && time >= 1 && time <= 100
                && limit >= 0 && limit <= 100 && wafers.isEmpty();
        if (!good || routes.get(route).size() == 3) {
            return -1;
        }
        Visit added = new Visit();
        added.mask = mask;
        added.time = time;
        added.limit = limit;
        routes.get(route).add(added);
        return routes.get(route).size();
    }

    int load(int route) {
        if (route != 0 && route != 1 || wafers.size() == 25) {
            return -1;
        }
        Wafer added = new Wafer();
        added.route = routes.get(route);
        wafers.add(added);
        return wafers.size() - 1;
    }

    private boolean isWafer(int wafer) {
        return wafer >= 0 && wafer < wafers.size();
    }

    /** 0 for the front robot, 1 for the back robot, -1 when neither reaches both. */
    private static int robot(int from, int to) {
        if (FRONT.contains(from) && FRONT.contains(to)) {
            return 0;
        }
        return BACK.contains(from) && BACK.contains(to) ? 1 : -1;
    }

    private boolean isWay(Wafer wafer, int stage, int from, int to) {
        boolean intoDown = to < PASS && downs[to];
        boolean outOfDown = from < PASS && downs[from];
        if (intoDown || outOfDown || robot(from, to) < 0) {
            return false;
        }
        if (stage == wafer.route.size()) {
            if (from == to) {
                return false;
            }
            return to == LOCK || to == PASS && (from == 2 || from == 3);
        }
        int mask = wafer.route.get(stage).mask;
        if (to < PASS) {
            return (mask & (1 << to)) > 0;
        }
        if (to == LOCK || from == PASS) {
            return false;
        }
        boolean front = from == LOCK || from == 0 || from == 1;
        return front ? mask >= 4 : mask % 4 > 0;
    }

    /** Each chamber's and the pass's wafer and its stage, nothing for none. */
    private Integer[][] situation() {
        Integer[][] at = new Integer[5][];
        for (int w = 0; w < wafers.size(); w++) {
            if (wafers.get(w).place != LOCK) {
                at[wafers.get(w).place] = new Integer[] {w, wafers.get(w).stage};
            }
        }
        return at;
    }

    private static Integer[][] after(Integer[][] at, int wafer, int stage, int from, int to) {
        Integer[][] then = at.clone();
        if (from != LOCK) {
            then[from] = null;
        }
        if (to != LOCK) {
            then[to] = new Integer[] {wafer, to < PASS ? stage + 1 : stage};
        }
        return then;
    }

    private boolean canBeEmptied(Integer[][] at, Map<String, Boolean> seen) {
        String key = "";
        boolean none = true;
        for (int p = 0; p < 5; p++) {
            key += at[p] == null ? "-," : at[p][0] + "/" + at[p][1] + ",";
            none = none && (at[p] == null || p < PASS && downs[p]);
        }
        if (none) {
            return true;
        }
        if (!seen.containsKey(key)) {
            seen.put(key, someMoveEmpties(at, seen));
        }
        return seen.get(key);
    }

    private boolean someMoveEmpties(Integer[][] at, Map<String, Boolean> seen) {
        for (int from = 0; from < 5; from++) {
            for (int to = 0; to < 6 && at[from] != null; to++) {
                boolean empty = to == LOCK || to == from || at[to] == null;
                int w = at[from][0];
                int stage = at[from][1];
                if (empty && isWay(wafers.get(w), stage, from, to)
                        && canBeEmptied(after(at, w, stage, from, to), seen)) {
                    return true;
                }
            }
        }
        return false;
    }

    int may(int wafer, int place) {
        if (!isWafer(wafer) || place < 0 || place > 5) {
            return -1;
        }
        Wafer w = wafers.get(wafer);
        if (left(wafer) > 0 || w.isFinished()) {
            return 1;
        }
        if (!isWay(w, w.stage, w.place, place)) {
            return 2;
        }
        if (place != LOCK && in(place) != -1 && in(place) != wafer) {
            return 3;
        }
        if (!canBeEmptied(after(situation(), wafer, w.stage, w.place, place), new HashMap<>())) {
            return 4;
        }
        return moved[robot(w.place, place)] ? 5 : 0;
    }

    int move(int wafer, int place) {
        int why = may(wafer, place);
        if (why == 0) {
            Wafer w = wafers.get(wafer);
            moved[robot(w.place, place)] = true;
            moves[robot(w.place, place)]++;
            w.place = place;
            w.cameBack = place == LOCK;
            if (place < PASS) {
                w.stage++;
                w.ticksInChamber = 0;
                w.chambers.add(place);
                w.begins.add(clock);
                w.ends.add(-1);
            }
        }
        return why;
    }

    int next() {
        List<int[]> all = new ArrayList<>();
        for (int w = 0; w < wafers.size(); w++) {
            for (int p = 0; p < 6; p++) {
                if (may(w, p) == 0) {
                    int stay = stay(w);
                    all.add(new int[] {place(w) == LOCK ? 1 : 0, stay == -1 ? 9999 : stay, w, p});
                }
            }
        }
        all.sort((a, b) -> java.util.Arrays.compare(a, b));
        return all.isEmpty() ? -1 : 8 * all.get(0)[2] + all.get(0)[3];
    }

    int go() {
        int chosen = next();
        if (chosen != -1) {
            move(chosen / 8, chosen % 8);
        }
        return chosen;
    }

    int tick(int n) {
        if (n < 0 || n > 200) {
            return -1;
        }
        int late = count(2);
        for (int i = 0; i < n; i++) {
            clock++;
            moved[0] = false;
            moved[1] = false;
            for (Wafer w : wafers) {
                if (w.isInChamber() && !downs[w.place]) {
                    tickIn(w);
                }
            }
        }
        return count(2) - late;
    }

    private void tickIn(Wafer w) {
        w.ticksInChamber++;
        if (w.ticksInChamber == w.visit().time) {
            w.ends.set(w.stage - 1, clock);
        }
        if (w.visit().limit > 0 && w.ticksInChamber - w.visit().time > w.visit().limit) {
            w.late = true;
        }
    }

    boolean down(int chamber, boolean is) {
        if (chamber < 0 || chamber > 3 || downs[chamber] == is) {
            return false;
        }
        downs[chamber] = is;
        return true;
    }

    boolean safe() {
        return canBeEmptied(situation(), new HashMap<>());
    }

    int in(int place) {
        for (int w = 0; w < wafers.size() && place != LOCK; w++) {
            if (wafers.get(w).place == place) {
                return w;
            }
        }
        return -1;
    }

    int place(int wafer) {
        return isWafer(wafer) ? wafers.get(wafer).place : -1;
    }

    int stage(int wafer) {
        return isWafer(wafer) ? wafers.get(wafer).stage : -1;
    }

    int visited(int wafer, int i) {
        return isWafer(wafer) && i >= 0 && i < stage(wafer) ? wafers.get(wafer).chambers.get(i) : -1;
    }

    int when(int wafer, int i, boolean end) {
        if (visited(wafer, i) == -1) {
            return -1;
        }
        return (end ? wafers.get(wafer).ends : wafers.get(wafer).begins).get(i);
    }

    int left(int wafer) {
        if (!isWafer(wafer)) {
            return -1;
        }
        Wafer w = wafers.get(wafer);
        return w.isInChamber() ? Math.max(0, w.visit().time - w.ticksInChamber) : 0;
    }

    int stay(int wafer) {
        if (!isWafer(wafer) || !wafers.get(wafer).isInChamber() || wafers.get(wafer).visit().limit == 0) {
            return -1;
        }
        Wafer w = wafers.get(wafer);
        return Math.max(0, w.visit().time + w.visit().limit - w.ticksInChamber);
    }

    int count(int what) {
        int finished = 0;
        int late = 0;
        for (Wafer w : wafers) {
            finished += w.isFinished() ? 1 : 0;
            late += w.late ? 1 : 0;
        }
        int[] all = {wafers.size(), finished, late, moves[0], moves[1], clock};
        return what >= 0 && what < all.length ? all[what] : -1;
    }
}
