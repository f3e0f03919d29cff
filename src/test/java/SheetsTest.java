/** Promises 27 to 37: sheet, lose, put, cell, copy, tell, call, as, trace, fault, many. */
final class SheetsTest {
    private static final long LOST = Long.MIN_VALUE;

    public static void main(String[] args) {
        sheets();
        losing();
        cells();
        cutting();
        copies();
        copyRefusals();
        telling();
        calling();
        kinds();
        faults();
        counts();
        Due.end();
    }

    private static void sheets() {
        ClockWakers x = new ClockWakers();
        Due.all("a new row", 1, x.sheet(0, 0, 0), x.sheet(1, 1, 60), x.sheet(2, 2, 1), x.sheet(3, 2, 60));
        Due.all("0 at first", 0, x.cell(1, 0, 1), x.cell(1, 59, 1), x.cell(2, 0, 2));
        x.put(3, 5, 7);
        x.sheet(3, 2, 60);
        Due.due("a new row for an old one", x.cell(3, 5, 2), 0);
        x.put(3, 59, 7);
        x.sheet(3, 0, 1);
        x.sheet(3, 2, 60);
        Due.due("a longer row for a short one", x.cell(3, 59, 2), 0);
        Due.all("no such sheet", -1, x.sheet(-1, 0, 0), x.sheet(4, 9, -1), x.sheet(Due.MAX, 0, 0), x.sheet(Due.MIN, 0, 0));
        Due.all("lane, n", -2, x.sheet(0, -1, 0), x.sheet(0, 3, -1), x.sheet(0, 0, 61), x.sheet(0, 0, Due.MAX));
        Due.due("fault", x.fault(), 0);
        Due.all("size", Due.SIZE, x.sheet(0, 0, -1), x.sheet(0, 2, Due.MIN));
        Due.due("fault", x.fault(), 4);
        Due.due("it changed nothing", x.cell(0, 0, 0), LOST);
        Due.due("it changed nothing", x.fault(), 3);
    }

    private static void losing() {
        ClockWakers x = new ClockWakers();
        Due.due("it had nothing", x.lose(0), 0);
        x.sheet(0, 0, 0);
        Due.due("it had a row", x.lose(0), 1);
        Due.due("it had nothing", x.lose(0), 0);
        Due.due("nothing is there", x.put(0, 0, 0), Due.NULL);
        Due.due("losing tells no fault", x.lose(0) + x.fault(), 1);
        Due.all("no such sheet", -1, x.lose(-1), x.lose(4), x.lose(Due.MAX), x.lose(Due.MIN));
        Due.due("nor does its refusal", x.fault(), 1);
    }

    private static void cells() {
        ClockWakers x = new ClockWakers();
        x.sheet(1, 1, 3);
        Due.all("put", 1, x.put(1, 0, 5), x.put(1, 2, -6));
        Due.all("cell", 0, x.cell(1, 0, 1) - 5, x.cell(1, 1, 1), x.cell(1, 2, 1) + 6);
        Due.all("no such sheet", -1, x.put(-1, 0, 0), x.put(4, 0, 0));
        Due.all("nothing", Due.NULL, x.put(0, 0, 0), x.put(0, -1, 0));
        Due.all("index", Due.INDEX, x.put(1, -1, 0), x.put(1, 3, 0), x.put(1, Due.MAX, 0), x.put(1, Due.MIN, 0));
        Due.due("fault", x.fault(), 3);
        Due.all("LOST", LOST, x.cell(-1, 0, 1), x.cell(4, 0, 1), x.cell(1, 0, -1), x.cell(1, 0, 3));
        Due.due("refusals are no faults", x.fault(), 0);
        Due.due("another lane", x.cell(1, 9, 0), LOST);
        Due.due("fault", x.fault(), 2);
        Due.due("nothing is no other lane", x.cell(0, 9, 0), LOST);
        Due.due("fault", x.fault(), 1);
        Due.all("index", LOST, x.cell(1, -1, 1), x.cell(1, Due.MIN, 1), x.cell(1, Due.MAX, 1), x.cell(1, 3, 1));
        Due.due("fault", x.fault(), 3);
        Due.due("cell", x.cell(1, 0, 1), 5);
        Due.due("fault", x.fault(), 0);
    }

    private static void cutting() {
        ClockWakers x = new ClockWakers();
        int[] values = {0, 127, 128, -128, -129, 255, 256, 32767, 32768, -32768, -32769, 65535, 65536, Due.MAX, Due.MIN};
        for (int lane = 0; lane <= 2; lane++) {
            Due.write(x, lane, lane, values);
        }
        for (int i = 0; i < values.length; i++) {
            Due.due("byte", x.cell(0, i, 0), (byte) values[i]);
            Due.due("short", x.cell(1, i, 1), (short) values[i]);
            Due.due("int", x.cell(2, i, 2), values[i]);
        }
    }

    private static void row(String what, ClockWakers x, int k, int lane, int... want) {
        for (int i = 0; i < want.length; i++) {
            Due.due(what, x.cell(k, i, lane), want[i]);
        }
    }

    private static void copies() {
        ClockWakers x = new ClockWakers();
        Due.write(x, 0, 1, 1, 2, 3, 4, 5);
        Due.write(x, 1, 1, 9, 9, 9);
        Due.due("copy", x.copy(0, 1, 1, 0, 2), 2);
        row("copied", x, 1, 1, 2, 3, 9);
        Due.due("on, within one", x.copy(0, 0, 0, 1, 4), 4);
        row("as they were", x, 0, 1, 1, 1, 2, 3, 4);
        Due.due("back, within one", x.copy(0, 1, 0, 0, 4), 4);
        row("as they were", x, 0, 1, 1, 2, 3, 4, 4);
        Due.due("none, at the ends", x.copy(0, 5, 1, 3, 0), 0);
        Due.due("all", x.copy(1, 0, 0, 2, 3), 3);
        row("all", x, 0, 1, 1, 2, 2, 3, 9);
    }

    private static void copyRefusals() {
        ClockWakers x = new ClockWakers();
        Due.write(x, 0, 1, 1, 2, 3);
        Due.write(x, 1, 1, 4, 5);
        Due.write(x, 2, 2, 6, 7);
        Due.all("no such sheet", -1, x.copy(-1, 0, 0, 0, 0), x.copy(4, 0, 0, 0, 0), x.copy(0, 0, -1, 0, 0), x.copy(0, 0, 4, 0, 0), x.copy(3, 0, 4, 0, -1));
        Due.due("fault", x.fault(), 0);
        Due.all("nothing", Due.NULL, x.copy(3, 0, 0, 0, -1), x.copy(0, 0, 3, 9, 1), x.copy(3, 0, 3, 0, 0));
        Due.due("fault", x.fault(), 1);
        Due.all("unlike lanes", Due.CAST, x.copy(0, 0, 2, 0, 1), x.copy(2, -1, 0, 0, -1));
        Due.due("fault", x.fault(), 2);
        Due.all("index", Due.INDEX, x.copy(0, -1, 1, 0, 1), x.copy(0, 0, 1, -1, 1), x.copy(0, 0, 1, 0, -1), x.copy(0, 0, 1, 0, 3), x.copy(1, 0, 0, 0, 3),
            x.copy(0, 4, 1, 0, 0), x.copy(0, 0, 1, 3, 0), x.copy(0, 3, 1, 0, 1), x.copy(0, Due.MAX, 1, Due.MAX, Due.MAX),
            x.copy(0, Due.MIN, 1, 0, Due.MIN), x.copy(0, 1, 1, 1, Due.MAX));
        Due.due("fault", x.fault(), 3);
        row("nothing is changed", x, 1, 1, 4, 5);
        row("nothing is changed", x, 0, 1, 1, 2, 3);
        x.copy(0, 9, 1, 0, 1);
        x.copy(0, 0, 1, 0, 1);
        Due.due("fault", x.fault(), 0);
    }

    private static int traceOf(int trace, int... numbers) {
        for (int number : numbers) {
            trace = 31 * trace + number;
        }
        return trace;
    }

    private static void telling() {
        ClockWakers x = Due.street(Due.FIVE);
        Due.due("sleeper", x.tell(0), 5);
        int trace = traceOf(0, 1);
        Due.due("trace", x.trace(), trace);
        Due.due("nervous", x.tell(1), 104);
        trace = traceOf(trace, 2, 1);
        Due.due("trace", x.trace(), trace);
        Due.due("baby", x.tell(2), 112);
        trace = traceOf(trace, 3, 2, 1, 1);
        Due.due("trace", x.trace(), trace);
        x.drowse(2, 9);
        for (int k = 0; k < 9; k++) {
            Due.due("baby", x.tell(2), 118);
            trace = traceOf(trace, 3, 2, 1, 1);
            Due.due("trace wraps", x.trace(), trace);
        }
        Due.all("no such house", -1, x.tell(-1), x.tell(5), x.tell(Due.MAX), x.tell(Due.MIN));
        Due.due("and no trace of it", x.trace(), trace);
    }

    private static void calling() {
        ClockWakers x = Due.street(Due.FIVE);
        Due.due("sleeper", x.call(3), 3);
        Due.due("nervous", x.call(4), 4);
        Due.due("baby", x.call(2), 80);
        Due.due("trace", x.trace(), traceOf(0, 4, 4, 5));
        Due.all("no such house", -1, x.call(-1), x.call(5), x.call(Due.MAX), x.call(Due.MIN));
        Due.due("trace", x.trace(), traceOf(0, 4, 4, 5));
    }

    private static void kinds() {
        ClockWakers x = Due.street(Due.FIVE);
        Due.all("it is one", 1, x.as(0, 0), x.as(1, 0), x.as(1, 1), x.as(2, 0), x.as(2, 1), x.as(2, 2));
        Due.all("it is none", Due.CAST, x.as(0, 1), x.as(0, 2), x.as(1, 2));
        Due.due("fault", x.fault(), 2);
        Due.all("no such house", -1, x.as(-1, 9), x.as(5, 0), x.as(Due.MAX, 0));
        Due.due("fault", x.fault(), 0);
        Due.all("kind", -2, x.as(0, -1), x.as(0, 3), x.as(2, Due.MAX), x.as(0, Due.MIN));
    }

    private static void faults() {
        ClockWakers x = Due.street(Due.FIVE);
        Due.due("as", x.as(0, 2), Due.CAST);
        x.lose(0);
        x.ofHouse(9, 9);
        x.stroke(0);
        x.nights(1);
        x.hears(9, 9);
        x.reading(9, 9, 9, 9);
        x.tell(0);
        x.many(9);
        Due.all("calls that name none leave it", 2, x.fault(), x.fault());
        x.as(0, 0);
        Due.due("one that came to none", x.fault(), 0);
        x.as(0, 1);
        x.sheet(0, 0, 1);
        Due.due("sheet", x.fault(), 0);
        x.as(0, 1);
        x.put(0, 0, 1);
        Due.due("put", x.fault(), 0);
        x.as(0, 1);
        x.copy(0, 0, 0, 0, 1);
        Due.due("copy", x.fault(), 0);
        x.as(0, 1);
        x.season(0, 0, 0, 0, 0);
        Due.due("season", x.fault(), 0);
        x.as(0, 1);
        x.street(0, 0, 0, 1);
        Due.due("street", x.fault(), 0);
        x.as(0, 1);
        x.put(4, 0, 1);
        Due.due("a refusal", x.fault(), 0);
        x.as(0, 1);
        x.copy(4, 0, 0, 0, 0);
        Due.due("a refusal", x.fault(), 0);
        x.as(0, 1);
        x.sheet(4, 0, 0);
        Due.due("a refusal", x.fault(), 0);
        x.as(0, 1);
        x.season(4, 0, 0, 0, 0);
        Due.due("a refusal", x.fault(), 0);
        ClockWakers none = new ClockWakers();
        none.put(0, 0, 0);
        none.sheet(0, 0, 0);
        none.put(0, 0, 0);
        none.season(0, 0, 0, 0, 0);
        Due.due("no street is no fault", none.fault(), 0);
    }

    private static void counts() {
        ClockWakers x = Due.street(Due.FIVE);
        x.nights(7);
        x.reading(0, 0, 0, 1);
        x.reading(0, 0, 0, 1);
        int[] due = {5, 3, 1, 7, 2};
        for (int what = 0; what < due.length; what++) {
            Due.due("many", x.many(what), due[what]);
        }
        Due.all("what", -2, x.many(-1), x.many(5), x.many(Due.MAX), x.many(Due.MIN));
    }
}
