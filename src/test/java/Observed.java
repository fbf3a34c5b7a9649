import java.util.ArrayList;
import java.util.List;

/** All that a stand can be asked about itself, so that two stands can be held against one another. */
final class Observed {
    private Observed() {
    }

    static List<String> of(WheelStand x) {
        List<String> seen = new ArrayList<>();
        int holes = x.count(0);
        for (int what = 0; what < 6; what++) {
            seen.add("count(" + what + ") " + x.count(what));
            seen.add("state(" + what + ") " + x.state(what));
        }
        for (int i = 0; i < holes; i++) {
            seen.add("kind of " + i + " " + x.about(i, 0));
            seen.add("pull of " + i + " " + x.about(i, 3));
            for (int row = 0; row < 2; row++) {
                seen.add("unbent(" + row + ", " + i + ") " + x.unbent(row, i));
                seen.add("reading(" + row + ", " + i + ") " + x.reading(row, i));
            }
        }
        tables(x, seen);
        limits(x, seen);
        log(x, seen);
        seen.add("why() " + x.why());
        seen.add("next() " + x.next());
        seen.add("worstAt(900) " + x.worstAt(900));
        lacing(x, seen);
        return seen;
    }

    private static void tables(WheelStand x, List<String> seen) {
        for (int table = 0; table < 6; table++) {
            seen.add("table " + table + " has " + placesOf(x, table) + " places");
            for (int steps = 0; steps < 17; steps++) {
                seen.add("tells(" + table + ", " + steps + ") " + x.tells(table, steps));
            }
        }
    }

    /** -1, if it is missing; a table that is copied to itself stays as it is. */
    static int placesOf(WheelStand x, int table) {
        if (x.copy(table, table, 0) == WheelStand.NOTHING) {
            return -1;
        }
        int least = 0;
        int most = 17;
        while (least < most) {
            int half = (least + most + 1) / 2;
            if (x.copy(table, table, half) == half) {
                least = half;
            } else {
                most = half - 1;
            }
        }
        return least;
    }

    private static void limits(WheelStand x, List<String> seen) {
        for (int which = 0; which < 5; which++) {
            int was = x.limit(which, 1);
            x.limit(which, was);
            seen.add("limit " + which + " " + was);
        }
    }

    private static void log(WheelStand x, List<String> seen) {
        int many = x.count(2);
        for (int i = 0; i < many; i++) {
            seen.add("log(" + i + ") " + x.log(i, 0) + " by " + x.log(i, 1));
        }
    }

    /** The lengths of one that goes straight and of others tell all four numbers; eight spokes are enough. */
    private static void lacing(WheelStand x, List<String> seen) {
        for (int spoke = 0; spoke < 8; spoke++) {
            seen.add("length(" + spoke + ") " + x.length(spoke));
            seen.add("hub(" + spoke + ") " + x.hub(spoke));
            seen.add("crossings(" + spoke + ") " + x.crossings(spoke));
        }
    }
}
