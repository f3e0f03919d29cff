import java.util.ArrayList;
import java.util.List;

/** Objects that are made alike, to see whether calls that should change nothing did: later calls must not tell them apart. */
final class Twin {
    private Twin() {
    }

    /**
     * A street of five houses and three clocks in its fourth night, clock 1 stuffed, two readings, a trace; sheet 0 has
     * three shorts, sheet 1 four ints (a season of two acts), sheet 2 nothing, sheet 3 the street's text in bytes.
     */
    static ClockWakers busy() {
        ClockWakers x = Due.street(Due.FIVE);
        x.nights(4);
        x.carry(0, 2);
        x.carry(1, 0);
        x.stuff(1);
        x.reading(0, 2, 0, 1);
        x.reading(1, 0, 1, 0);
        x.tell(2);
        sheets(x);
        return x;
    }

    /** Sheets as a busy one has them, but no street. */
    static ClockWakers bare() {
        ClockWakers x = new ClockWakers();
        Due.write(x, 3, 0, Due.codes(Due.FIVE));
        sheets(x);
        return x;
    }

    private static void sheets(ClockWakers x) {
        Due.write(x, 0, 1, 7, 8, 9);
        Due.write(x, 1, 2, 0, 0, 2, 1);
    }

    static void untouched(ClockWakers x) {
        untouched(x, busy());
    }

    static void untouched(ClockWakers x, ClockWakers twin) {
        List<Long> got = answers(x);
        List<Long> want = answers(twin);
        Due.due("later calls: how many answers", got.size(), want.size());
        for (int k = 0; k < Math.min(got.size(), want.size()); k++) {
            Due.due("later calls, answer " + k, got.get(k), want.get(k));
        }
    }

    /** Some 200 calls that tell all there is of an object but its latest fault, which refusals may change. */
    private static List<Long> answers(ClockWakers x) {
        List<Long> told = new ArrayList<>();
        told.add((long) x.trace());
        for (int what = 0; what <= 4; what++) {
            told.add((long) x.many(what));
        }
        houses(x, told);
        clocks(x, told);
        told.add((long) x.walls());
        told.add((long) x.settle());
        for (int k = 0; k < 4; k++) {
            sheet(x, k, told);
        }
        told.add((long) x.nights(1));
        told.add((long) x.many(3));
        for (int c = 0; c < 4; c++) {
            told.add((long) x.ofClock(c, 2));
            told.add((long) x.tune(c, 5));
        }
        told.add((long) x.reading(0, 0, 0, 0));
        told.add((long) x.depths(0));
        return told;
    }

    private static void houses(ClockWakers x, List<Long> told) {
        for (int h = 0; h < 6; h++) {
            for (int what = 0; what <= 4; what++) {
                told.add((long) x.ofHouse(h, what));
            }
            told.add((long) x.depths(h));
            told.add((long) x.kinds(h));
            told.add((long) x.hush(h));
            told.add(x.odds(h, 0));
        }
    }

    private static void clocks(ClockWakers x, List<Long> told) {
        for (int c = 0; c < 4; c++) {
            for (int what = 0; what <= 5; what++) {
                told.add((long) x.ofClock(c, what));
            }
            told.add((long) x.louds(c));
            told.add((long) x.round(c, 0));
            told.add((long) x.still(c));
        }
    }

    private static void sheet(ClockWakers x, int k, List<Long> told) {
        for (int lane = 0; lane <= 2; lane++) {
            int i = 0;
            long cell;
            do {
                cell = x.cell(k, i, lane);
                told.add(cell);
                i++;
            } while (cell != Due.LOST && i <= 60);
            told.add((long) x.fault());
        }
    }
}
