import java.util.ArrayList;
import java.util.List;
import java.util.function.Supplier;
import java.util.function.ToLongFunction;

/**
 * All that can be seen of a house but its refusals (of the levels: those of two portables). A
 * house is used for 512 calls, so each part is asked of a house of its own, made anew. What can
 * only be seen by changing it, who reaches a place and where there is noise, is asked last.
 */
final class Seen {
    private static final int PART = 120;
    private static final List<ToLongFunction<CordlessHouse>> ASKED = asked();

    private Seen() {
    }

    static long[] of(Supplier<CordlessHouse> house) {
        long[] seen = new long[ASKED.size()];
        CordlessHouse x = null;
        for (int i = 0; i < seen.length; i++) {
            if (i % PART == 0) {
                x = house.get();
            }
            seen[i] = ASKED.get(i).applyAsLong(x);
        }
        return seen;
    }

    private static List<ToLongFunction<CordlessHouse>> asked() {
        List<ToLongFunction<CordlessHouse>> all = new ArrayList<>();
        for (int what = 0; what <= 8; what++) {
            int asked = what;
            all.add(x -> x.count(asked));
        }
        all.add(x -> x.air(0));
        all.add(x -> x.air(1));
        for (int p = 0; p < 8; p++) {
            askPortable(all, p);
        }
        for (int i = 0; i < 16; i++) {
            askBearer(all, i);
        }
        for (int c = 0; c < 4; c++) {
            askBeacon(all, c);
        }
        for (int p = 0; p < 2; p++) {
            askLevels(all, p);
        }
        askReach(all);
        for (int where = 0; where < 20; where++) {
            askNoise(all, where);
        }
        return all;
    }

    private static void askPortable(List<ToLongFunction<CordlessHouse>> all, int p) {
        for (int what = 0; what <= 9; what++) {
            int asked = what;
            all.add(x -> x.portableOf(p, asked));
        }
        for (int i = 0; i < 20; i++) {
            int asked = i;
            all.add(x -> x.heard(p, asked));
        }
    }

    private static void askBearer(List<ToLongFunction<CordlessHouse>> all, int i) {
        for (int what = 0; what <= 4; what++) {
            int asked = what;
            all.add(x -> x.bearer(i, asked));
        }
    }

    private static void askBeacon(List<ToLongFunction<CordlessHouse>> all, int c) {
        for (int place = 0; place < 16; place++) {
            int asked = place;
            all.add(x -> x.beacon(c, asked) ? 1 : 0);
        }
    }

    private static void askLevels(List<ToLongFunction<CordlessHouse>> all, int p) {
        for (int c = 0; c < 4; c++) {
            int cell = c;
            for (int channel = 0; channel < 120; channel++) {
                int asked = channel;
                all.add(x -> x.level(p, cell, asked));
            }
        }
    }

    private static void askReach(List<ToLongFunction<CordlessHouse>> all) {
        for (int place = 0; place < 16; place++) {
            int asked = place;
            all.add(x -> x.reach(asked, 0));
        }
    }

    private static void askNoise(List<ToLongFunction<CordlessHouse>> all, int where) {
        for (int channel = 0; channel < 120; channel++) {
            int asked = channel;
            all.add(x -> x.noise(where, asked, true) ? 1 : 0);
        }
    }
}
