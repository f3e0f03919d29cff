/** The edges of promises 27 to 37, sentence by sentence. */
final class SheetsEdgesTest {
    public static void main(String[] args) {
        sheetRefusals();
        newRows();
        lose();
        putRefusals();
        putCuts();
        cellRefusals();
        cellOrder();
        copyRefusals();
        copyIndexes();
        copyAsTheyWere();
        tell();
        call();
        as();
        trace();
        faultOfEachCall();
        faultCleared();
        faultStays();
        many();
        Due.endOf(27, 37);
    }

    private static void row(String what, ClockWakers x, int k, int lane, int... want) {
        for (int i = 0; i < want.length; i++) {
            Due.due(what + ", cell " + i, x.cell(k, i, lane), want[i]);
        }
        Due.due(what + ", no cell more", x.cell(k, want.length, lane), Due.LOST);
        Due.due(what + ", its fault", x.fault(), 3);
    }

    private static void sheetRefusals() {
        ClockWakers x = Twin.busy();
        Due.promise(27, "UNKNOWN; OUTSIDE: lane, n above 60; SIZE");
        Due.all("k", -1, x.sheet(-1, 0, 1), x.sheet(4, 0, 1), x.sheet(Due.MIN, 0, 1), x.sheet(Due.MAX, 0, 1));
        Due.all("ahead of all else", -1, x.sheet(-1, 3, 61), x.sheet(4, 0, -1), x.sheet(4, -1, 1), x.sheet(4, 0, 61));
        Due.all("lane", -2, x.sheet(0, -1, 1), x.sheet(3, 3, 1), x.sheet(0, Due.MIN, 1), x.sheet(0, Due.MAX, 1));
        Due.all("n", -2, x.sheet(0, 0, 61), x.sheet(3, 2, 62), x.sheet(2, 1, Due.MAX));
        Due.all("lane ahead of SIZE", -2, x.sheet(0, -1, -1), x.sheet(2, 3, Due.MIN));
        Due.due("fault()", x.fault(), 0);
        Due.promise(27, "4 SIZE (a length below 0)");
        Due.all("n", Due.SIZE, x.sheet(0, 0, -1), x.sheet(2, 2, -1), x.sheet(3, 1, Due.MIN), x.sheet(1, 2, -60));
        Due.due("fault()", x.fault(), 4);
        Due.due("a refusal", x.sheet(4, 0, 0), -1);
        Due.due("fault()", x.fault(), 0);
        Due.due("SIZE again", x.sheet(0, 0, -1), Due.SIZE);
        Due.due("a refusal", x.sheet(0, 0, 61), -2);
        Due.due("fault()", x.fault(), 0);
        Due.promise(27, "they change nothing (but fault(), of a call that names FAULTS)");
        Twin.untouched(x);
    }

    private static void newRows() {
        Due.promise(27, "a row of 0 .. 60 numbers (0 at first) of a LANE");
        for (int k = 0; k <= 3; k++) {
            for (int lane = 0; lane <= 2; lane++) {
                ClockWakers x = new ClockWakers();
                Due.due("none", x.sheet(k, lane, 0), 1);
                row("none", x, k, lane);
                Due.due("one", x.sheet(k, lane, 1), 1);
                row("one", x, k, lane, 0);
                Due.due("sixty", x.sheet(k, lane, 60), 1);
                row("sixty", x, k, lane, new int[60]);
            }
        }
        Due.promise(27, "A SHEET gets a new row: 1");
        ClockWakers x = new ClockWakers();
        Due.write(x, 1, 2, 5, 6, 7);
        Due.due("as long, of its lane", x.sheet(1, 2, 3), 1);
        row("all 0", x, 1, 2, 0, 0, 0);
        x.put(1, 2, 9);
        Due.due("a shorter one", x.sheet(1, 2, 2), 1);
        row("shorter", x, 1, 2, 0, 0);
        Due.due("a longer one", x.sheet(1, 2, 4), 1);
        row("longer", x, 1, 2, 0, 0, 0, 0);
        Due.due("of another lane", x.sheet(1, 0, 1), 1);
        Due.due("it is no int", x.cell(1, 0, 2), Due.LOST);
        Due.due("fault()", x.fault(), 2);
        row("of another lane", x, 1, 0, 0);
        Due.all("the others have nothing", Due.NULL, x.put(0, 0, 0), x.put(2, 0, 0), x.put(3, 0, 0));
        Due.promise(27, "but fault(), of a call that names FAULTS");
        Due.due("a fault", x.sheet(0, 0, -1), Due.SIZE);
        Due.due("none", x.sheet(0, 0, 0), 1);
        Due.due("fault()", x.fault(), 0);
    }

    private static void lose() {
        ClockWakers x = Twin.busy();
        Due.promise(28, "UNKNOWN");
        Due.all("k", -1, x.lose(-1), x.lose(4), x.lose(Due.MIN), x.lose(Due.MAX));
        Due.promise(28, "0: it had nothing");
        Due.all("it had nothing", 0, x.lose(2), x.lose(2));
        Twin.untouched(x);
        Due.promise(28, "A SHEET has nothing: 1; 0: it had nothing");
        for (int k = 0; k <= 3; k++) {
            ClockWakers y = new ClockWakers();
            for (int other = 0; other <= 3; other++) {
                y.sheet(other, 0, other);
            }
            Due.due("even a row of none is something", y.lose(k), 1);
            Due.due("it had nothing", y.lose(k), 0);
            Due.due("it has nothing", y.put(k, 0, 0), Due.NULL);
            for (int other = 0; other <= 3; other++) {
                Due.due("the others have theirs", y.lose(other), other == k ? 0 : 1);
            }
            Due.due("a new row", y.sheet(k, 1, 2), 1);
            row("a new row", y, k, 1, 0, 0);
        }
    }

    private static void putRefusals() {
        ClockWakers x = Twin.busy();
        Due.promise(29, "UNKNOWN; NULL; INDEX");
        Due.all("k", -1, x.put(-1, 0, 0), x.put(4, 0, 0), x.put(4, -1, 0), x.put(Due.MIN, 0, 0), x.put(Due.MAX, 0, 0));
        Due.due("fault()", x.fault(), 0);
        Due.all("nothing", Due.NULL, x.put(2, 0, 5), x.put(2, -1, 5), x.put(2, 60, 5));
        Due.due("fault()", x.fault(), 1);
        Due.all("i", Due.INDEX, x.put(0, -1, 5), x.put(0, 3, 5), x.put(0, 60, 5), x.put(1, 4, 5), x.put(3, 26, 5), x.put(0, Due.MIN, 5), x.put(0, Due.MAX, 5));
        Due.due("fault()", x.fault(), 3);
        Due.due("a refusal", x.put(4, 0, 0), -1);
        Due.due("fault()", x.fault(), 0);
        Due.promise(29, "they change nothing (but fault(), of a call that names FAULTS)");
        Twin.untouched(x);
        Due.promise(29, "Cell i of a SHEET becomes v: 1");
        ClockWakers y = new ClockWakers();
        y.sheet(0, 2, 0);
        Due.all("no cell of none", Due.INDEX, y.put(0, 0, 1), y.put(0, -1, 1));
        y.sheet(0, 2, 60);
        Due.all("first and last", 1, y.put(0, 0, 4), y.put(0, 59, 5));
        Due.due("fault()", y.fault(), 0);
        Due.due("one on", y.put(0, 60, 6), Due.INDEX);
        int[] sixty = new int[60];
        sixty[0] = 4;
        sixty[59] = 5;
        row("sixty", y, 0, 2, sixty);
    }

    private static void putCuts() {
        Due.promise(29, "what comes to a cell of it is cut to its LANE");
        int[] values = {127, 128, 129, 255, 256, -128, -129, -256, -257, 32767, 32768, 65535, 65536, -32768, -32769, -65537, Due.MAX, Due.MIN};
        int[] bytes = {127, -128, -127, -1, 0, -128, 127, 0, -1, -1, 0, -1, 0, 0, -1, -1, -1, 0};
        int[] shorts = {127, 128, 129, 255, 256, -128, -129, -256, -257, 32767, -32768, -1, 0, -32768, 32767, -1, -1, 0};
        int[][] due = {bytes, shorts, values};
        for (int lane = 0; lane <= 2; lane++) {
            ClockWakers x = new ClockWakers();
            Due.write(x, 0, lane, values);
            row("lane " + lane, x, 0, lane, due[lane]);
        }
    }

    private static void cellRefusals() {
        ClockWakers x = Twin.busy();
        Due.promise(30, "LOST: UNKNOWN, OUTSIDE: lane");
        Due.due("a fault", x.cell(0, 3, 1), Due.LOST);
        Due.due("fault()", x.fault(), 3);
        Due.all("k", Due.LOST, x.cell(-1, 0, 0), x.cell(4, 0, 0), x.cell(Due.MIN, 0, 0), x.cell(Due.MAX, 0, 0));
        Due.due("fault()", x.fault(), 0);
        Due.due("a fault", x.cell(0, 3, 1), Due.LOST);
        Due.all("lane", Due.LOST, x.cell(0, 0, -1), x.cell(0, 0, 3), x.cell(0, 0, Due.MIN), x.cell(0, 0, Due.MAX));
        Due.due("fault()", x.fault(), 0);
        Due.all("ahead of FAULTS", 0, faultOf(x, 2, 0, 3), faultOf(x, 0, 3, -1), faultOf(x, 4, 0, 0), faultOf(x, -1, -1, 3));
        Due.promise(30, "FAULTS CAST (nothing is no CAST), NULL, INDEX");
        Due.all("of another lane", 2, faultOf(x, 0, 0, 0), faultOf(x, 0, 0, 2), faultOf(x, 1, 0, 0), faultOf(x, 1, 0, 1), faultOf(x, 3, 0, 1), faultOf(x, 3, 0, 2));
        Due.all("ahead of INDEX", 2, faultOf(x, 0, -1, 0), faultOf(x, 0, 3, 2), faultOf(x, 1, Due.MAX, 0));
        Due.all("nothing", 1, faultOf(x, 2, 0, 0), faultOf(x, 2, 0, 1), faultOf(x, 2, 0, 2), faultOf(x, 2, -1, 0), faultOf(x, 2, 60, 2));
        Due.all("i", 3, faultOf(x, 0, -1, 1), faultOf(x, 0, 3, 1), faultOf(x, 1, 4, 2), faultOf(x, 3, 26, 0), faultOf(x, 0, Due.MIN, 1), faultOf(x, 0, Due.MAX, 1));
        Due.promise(30, "they change nothing (but fault(), of a call that names FAULTS)");
        Twin.untouched(x);
    }

    /** The fault of a call of cell that is due to be LOST. */
    private static int faultOf(ClockWakers x, int k, int i, int lane) {
        Due.due("cell(" + k + ", " + i + ", " + lane + ")", x.cell(k, i, lane), Due.LOST);
        return x.fault();
    }

    private static void cellOrder() {
        Due.promise(30, "Cell i of what a SHEET has, taken as a row of a LANE");
        ClockWakers x = Twin.busy();
        Due.due("the first", x.cell(0, 0, 1), 7);
        Due.due("fault()", x.fault(), 0);
        Due.due("the last", x.cell(0, 2, 1), 9);
        Due.due("nothing", faultOf(x, 2, 0, 0), 1);
        Due.due("the last again", x.cell(0, 2, 1), 9);
        Due.due("fault()", x.fault(), 0);
        x.sheet(2, 0, 0);
        Due.all("a row of none", 3, faultOf(x, 2, 0, 0), faultOf(x, 2, -1, 0));
        Due.due("of another lane", faultOf(x, 2, 0, 1), 2);
        x.sheet(2, 2, 2);
        x.put(2, 0, Due.MIN);
        x.put(2, 1, Due.MAX);
        Due.due("the least int is no LOST", x.cell(2, 0, 2), -2147483648L);
        Due.due("the most", x.cell(2, 1, 2), 2147483647L);
    }

    private static void copyRefusals() {
        ClockWakers x = Twin.busy();
        Due.promise(31, "UNKNOWN");
        Due.all("the first", -1, x.copy(-1, 0, 0, 0, 0), x.copy(4, 0, 0, 0, 0), x.copy(Due.MIN, 0, 0, 0, 0), x.copy(Due.MAX, 0, 0, 0, 0));
        Due.all("the other", -1, x.copy(0, 0, -1, 0, 0), x.copy(0, 0, 4, 0, 0), x.copy(0, 0, Due.MIN, 0, 0), x.copy(0, 0, Due.MAX, 0, 0));
        Due.all("ahead of FAULTS", -1, x.copy(2, 0, 4, 0, 0), x.copy(4, -1, 2, -1, -1), x.copy(0, 9, -1, 9, 9));
        Due.due("fault()", x.fault(), 0);
        Due.promise(31, "FAULTS NULL (the first, the other)");
        Due.all("nothing", Due.NULL, x.copy(2, 0, 0, 0, 0), x.copy(0, 0, 2, 0, 0), x.copy(2, 0, 2, 0, 0));
        Due.all("ahead of INDEX", Due.NULL, x.copy(2, -1, 0, 0, 1), x.copy(0, 4, 2, 0, 0), x.copy(1, 0, 2, 0, -1));
        Due.due("fault()", x.fault(), 1);
        Due.due("a refusal", x.copy(4, 0, 0, 0, 0), -1);
        Due.due("fault()", x.fault(), 0);
        Due.promise(31, "CAST (unlike LANES)");
        Due.all("lanes", Due.CAST, x.copy(0, 0, 1, 0, 1), x.copy(1, 0, 0, 0, 1), x.copy(3, 0, 0, 0, 1), x.copy(3, 0, 1, 0, 1), x.copy(0, 0, 3, 0, 0));
        Due.all("ahead of INDEX", Due.CAST, x.copy(0, -1, 1, 0, 1), x.copy(1, 0, 0, 0, -1), x.copy(3, 0, 1, 9, 0));
        Due.due("fault()", x.fault(), 2);
        Due.promise(31, "they change nothing (but fault(), of a call that names FAULTS)");
        Twin.untouched(x);
    }

    private static void copyIndexes() {
        Due.promise(31, "INDEX: i, j, n below 0 or beyond");
        ClockWakers x = new ClockWakers();
        Due.write(x, 0, 1, 1, 2, 3);
        Due.write(x, 1, 1, 4, 5, 6, 7);
        Due.all("below 0", Due.INDEX, x.copy(0, -1, 1, 0, 1), x.copy(0, 0, 1, -1, 1), x.copy(0, 0, 1, 0, -1), x.copy(0, Due.MIN, 1, 0, 1), x.copy(0, 0, 1, Due.MIN, 1),
            x.copy(0, 0, 1, 0, Due.MIN), x.copy(0, -1, 1, -1, 2), x.copy(0, 3, 1, 4, -1));
        Due.due("n below 0 is no SIZE", x.fault(), 3);
        Due.all("beyond", Due.INDEX, x.copy(0, 0, 1, 0, 4), x.copy(0, 1, 1, 0, 3), x.copy(0, 3, 1, 0, 1), x.copy(1, 0, 0, 0, 4), x.copy(1, 0, 0, 1, 3), x.copy(1, 0, 0, 3, 1),
            x.copy(0, Due.MAX, 1, 0, 1), x.copy(0, 0, 1, Due.MAX, 1), x.copy(0, 0, 1, 0, Due.MAX), x.copy(0, 1, 1, 1, Due.MAX), x.copy(0, Due.MAX, 1, Due.MAX, Due.MAX));
        Due.all("if none of them is taken, too", Due.INDEX, x.copy(0, -1, 1, 0, 0), x.copy(0, 4, 1, 0, 0), x.copy(0, 0, 1, -1, 0), x.copy(0, 0, 1, 5, 0),
            x.copy(0, Due.MIN, 1, 0, 0), x.copy(0, Due.MAX, 1, 0, 0), x.copy(0, 0, 1, Due.MIN, 0), x.copy(0, 0, 1, Due.MAX, 0));
        Due.due("fault()", x.fault(), 3);
        Due.all("none of them, but there", 0, x.copy(0, 3, 1, 4, 0), x.copy(0, 0, 1, 0, 0), x.copy(1, 4, 0, 3, 0), x.copy(0, 3, 0, 3, 0));
        Due.due("fault()", x.fault(), 0);
        row("nothing is changed", x, 0, 1, 1, 2, 3);
        row("nothing is changed", x, 1, 1, 4, 5, 6, 7);
        Due.due("all of the first, to the last of the other", x.copy(0, 0, 1, 1, 3), 3);
        row("the first stays", x, 0, 1, 1, 2, 3);
        row("the other", x, 1, 1, 4, 1, 2, 3);
        x.sheet(2, 1, 0);
        Due.due("rows of none", x.copy(2, 0, 2, 0, 0), 0);
        Due.all("beyond", Due.INDEX, x.copy(2, 0, 0, 0, 1), x.copy(0, 0, 2, 0, 1), x.copy(2, 1, 0, 0, 0), x.copy(0, 0, 2, 1, 0));
    }

    private static void copyAsTheyWere() {
        Due.promise(31, "go to another one (perhaps the same) from j on, as they were: n");
        for (int lane = 0; lane <= 2; lane++) {
            ClockWakers x = new ClockWakers();
            Due.write(x, 3, lane, 1, 2, 3, 4, 5);
            Due.due("onto itself", x.copy(3, 0, 3, 0, 5), 5);
            row("onto itself", x, 3, lane, 1, 2, 3, 4, 5);
            Due.due("on by one", x.copy(3, 0, 3, 1, 4), 4);
            row("on by one", x, 3, lane, 1, 1, 2, 3, 4);
            Due.due("back by one", x.copy(3, 1, 3, 0, 4), 4);
            row("back by one", x, 3, lane, 1, 2, 3, 4, 4);
            Due.due("one", x.copy(3, 0, 3, 4, 1), 1);
            row("one", x, 3, lane, 1, 2, 3, 4, 1);
        }
        ClockWakers most = new ClockWakers();
        most.sheet(0, 2, 60);
        most.sheet(1, 2, 60);
        most.put(0, 59, Due.MIN);
        Due.due("sixty", most.copy(0, 0, 1, 0, 60), 60);
        Due.due("the last of them", most.cell(1, 59, 2), Due.MIN);
        Due.due("sixty-one", most.copy(0, 0, 1, 0, 61), Due.INDEX);
    }

    private static void tell() {
        ClockWakers x = Twin.busy();
        Due.promise(32, "UNKNOWN");
        Due.all("h", -1, x.tell(-1), x.tell(5), x.tell(6), x.tell(Due.MIN), x.tell(Due.MAX));
        Twin.untouched(x);
        Due.promise(32, "SLEEPER (1): DEPTH. NERVOUS (2): what SLEEPER's gives, and 100");
        ClockWakers y = Due.street("c0;s1;n1;b1,10");
        for (int depth = 1; depth <= 9; depth++) {
            for (int h = 0; h < 3; h++) {
                y.drowse(h, depth);
            }
            Due.due("SLEEPER", y.tell(0), depth);
            Due.due("NERVOUS", y.tell(1), depth + 100);
            Due.due("BABY", y.tell(2), 2 * depth + 100);
        }
        Due.promise(32, "BABY (3): what NERVOUS's gives, and what SLEEPER's gives (NERVOUS's left out)");
        ClockWakers baby = Due.street("c0;s1;s1;s1;s1;s1;b9,10");
        Due.due("the last house", baby.tell(5), 118);
        Due.due("NERVOUS's but once", baby.trace(), ((3 * 31 + 2) * 31 + 1) * 31 + 1);
    }

    private static void call() {
        ClockWakers x = Twin.busy();
        Due.promise(33, "UNKNOWN");
        Due.all("h", -1, x.call(-1), x.call(5), x.call(6), x.call(Due.MIN), x.call(Due.MAX));
        Twin.untouched(x);
        Due.promise(33, "CALLED by a lent body (4): its number; BABIES have their own (5): 80");
        ClockWakers y = Due.street("c0;s1;n1;b1;b9;s9;n9,10");
        int[] due = {0, 1, 80, 80, 4, 5};
        int trace = 0;
        for (int h = 0; h < 6; h++) {
            Due.due("house " + h, y.call(h), due[h]);
            trace = 31 * trace + (due[h] == 80 ? 5 : 4);
            Due.due("trace", y.trace(), trace);
        }
    }

    private static void as() {
        ClockWakers x = Twin.busy();
        Due.promise(34, "UNKNOWN; OUTSIDE; CAST");
        Due.all("h", -1, x.as(-1, 0), x.as(5, 0), x.as(6, 2), x.as(Due.MIN, 0), x.as(Due.MAX, 2));
        Due.all("h ahead of kind", -1, x.as(-1, -1), x.as(5, 3));
        Due.all("kind", -2, x.as(0, -1), x.as(0, 3), x.as(2, Due.MIN), x.as(2, Due.MAX));
        Due.due("fault()", x.fault(), 0);
        Due.promise(34, "it is none (each is a SLEEPER, too; a BABY is a NERVOUS one)");
        int[][] due = {{1, Due.CAST, Due.CAST}, {1, 1, Due.CAST}, {1, 1, 1}, {1, Due.CAST, Due.CAST}, {1, 1, Due.CAST}};
        for (int h = 0; h < 5; h++) {
            for (int kind = 0; kind <= 2; kind++) {
                Due.due("house " + h + " as " + kind, x.as(h, kind), due[h][kind]);
                Due.due("fault()", x.fault(), due[h][kind] == 1 ? 0 : 2);
            }
        }
        Twin.untouched(x);
        Due.promise(34, "UNKNOWN; OUTSIDE; CAST");
        ClockWakers y = Due.street(Due.FIVE);
        Due.due("CAST", y.as(0, 1), Due.CAST);
        Due.due("a refusal", y.as(5, 1), -1);
        Due.due("fault()", y.fault(), 0);
        Due.due("CAST", y.as(0, 1), Due.CAST);
        Due.due("a refusal", y.as(0, 3), -2);
        Due.due("fault()", y.fault(), 0);
        Due.due("no street", new ClockWakers().as(0, 0), -1);
    }

    private static void trace() {
        Due.promise(35, "an int that wraps, 0 at first, becomes 31 times it and the number");
        ClockWakers x = Due.street("c0;s1;b1,10");
        Due.due("0 at first", x.trace(), 0);
        int[] due = {5, 160, 4965, 153920, 4771525, 147917280, 290468389, 414585472};
        for (int k = 0; k < due.length; k++) {
            Due.due("call", x.call(1), 80);
            Due.due("behind " + (k + 1), x.trace(), due[k]);
            Due.due("asked again", x.trace(), due[k]);
        }
        ClockWakers y = Due.street("c0;s1;b1,10");
        long trace = 0;
        boolean below = false;
        for (int k = 0; k < 100; k++) {
            y.tell(0);
            trace = (int) (31 * trace + 1);
            below |= trace < 0;
            Due.due("behind " + (k + 1), y.trace(), trace);
        }
        Due.due("it has been below 0", below ? 1 : 0, 1);
        Due.promise(35, "as they begin");
        ClockWakers z = Due.street("c0;n1;s1,10");
        z.tell(0);
        Due.due("NERVOUS's ahead of SLEEPER's", z.trace(), 2 * 31 + 1);
        Due.all("as, ofHouse leave nothing", 63, z.trace() + z.as(0, 1) - 1, z.trace() + z.ofHouse(0, 1) - 1);
        Due.due("a new text", z.street(3, 0, 0, 11), 1);
        Due.due("TRACE goes on", z.trace(), 63);
    }

    private static void faultOfEachCall() {
        Due.promise(36, "0 ahead of any");
        Due.due("of a new one", new ClockWakers().fault(), 0);
        Due.promise(36, "it answers -10 less it (LOST, where a long is answered, as for refusals) and changes nothing; fault() tells it");
        ClockWakers x = Twin.busy();
        int[][] told = {
            {x.street(2, 0, 0, 0), x.fault()}, {x.street(0, 0, 0, 0), x.fault()}, {x.street(3, 0, 27, 0), x.fault()}, {x.street(3, 0, 0, -1), x.fault()},
            {x.season(2, 0, 0, 0, 0), x.fault()}, {x.season(0, 0, 0, 0, 0), x.fault()}, {x.season(1, 2, 5, 0, 0), x.fault()},
            {x.sheet(0, 0, -1), x.fault()}, {x.put(2, 0, 0), x.fault()}, {x.put(0, 3, 0), x.fault()},
            {x.copy(2, 0, 0, 0, 0), x.fault()}, {x.copy(0, 0, 1, 0, 0), x.fault()}, {x.copy(0, 0, 0, 0, -1), x.fault()}, {x.as(0, 2), x.fault()}};
        int[] due = {1, 2, 3, 4, 1, 2, 3, 4, 1, 3, 1, 2, 3, 2};
        for (int k = 0; k < due.length; k++) {
            Due.due("fault " + k + " answers -10 less it", told[k][0], -10 - due[k]);
            Due.due("fault() of " + k, told[k][1], due[k]);
        }
        Due.due("asked again", x.fault(), 2);
        Twin.untouched(x);
    }

    /** Behind a fault, a call that names FAULTS and comes to none; the next one comes behind a fault again. */
    private static void clears(ClockWakers x, String call, long answer, long due) {
        Due.due(call, answer, due);
        Due.due("fault() behind " + call, x.fault(), 0);
        Due.due("a fault", x.as(0, 2), Due.CAST);
    }

    private static void faultCleared() {
        Due.promise(36, "0: it came to none, or was refused");
        ClockWakers x = Twin.busy();
        Due.due("a fault", x.as(0, 2), Due.CAST);
        clears(x, "street", x.street(3, 0, 0, 26), 3);
        clears(x, "street, a first fault", x.street(3, 0, 0, 1), -101);
        clears(x, "street, refused", x.street(4, 0, 0, 26), -1);
        clears(x, "street, refused", x.street(3, 3, 0, 26), -2);
        clears(x, "season", x.season(1, 2, 0, 2, 1), -9);
        clears(x, "season, refused", x.season(4, 2, 0, 2, 1), -1);
        clears(x, "season, refused", x.season(1, 2, 0, 2, 5), -2);
        clears(x, "season, a refused pair", x.season(0, 1, 0, 1, 1), -2);
        clears(x, "sheet", x.sheet(2, 1, 3), 1);
        clears(x, "sheet, refused", x.sheet(4, 1, 3), -1);
        clears(x, "sheet, refused", x.sheet(2, 1, 61), -2);
        clears(x, "put", x.put(2, 0, 1), 1);
        clears(x, "put, refused", x.put(4, 0, 1), -1);
        clears(x, "cell", x.cell(2, 0, 1), 1);
        clears(x, "cell, refused", x.cell(4, 0, 1), Due.LOST);
        clears(x, "cell, refused", x.cell(2, 0, 3), Due.LOST);
        clears(x, "copy", x.copy(2, 0, 0, 0, 3), 3);
        clears(x, "copy, refused", x.copy(2, 0, 4, 0, 3), -1);
        clears(x, "as", x.as(2, 2), 1);
        clears(x, "as, refused", x.as(5, 2), -1);
        clears(x, "as, refused", x.as(2, 3), -2);
    }

    private static void leaves(ClockWakers x, String call, long answer, long due) {
        Due.due(call, answer, due);
        Due.due("fault() behind " + call, x.fault(), 4);
    }

    private static void faultStays() {
        Due.promise(36, "The FAULT of the latest call that names one");
        ClockWakers x = Twin.busy();
        Due.due("a fault", x.sheet(0, 0, -1), Due.SIZE);
        leaves(x, "ofHouse", x.ofHouse(0, 0), 0);
        leaves(x, "ofClock", x.ofClock(1, 3), 1);
        leaves(x, "drowse", x.drowse(0, 5), 5);
        leaves(x, "tune", x.tune(0, 9), 9);
        leaves(x, "wall", x.wall(1), 1);
        leaves(x, "hears", x.hears(0, 0), 7);
        leaves(x, "stroke", x.stroke(0), 4);
        leaves(x, "nights", x.nights(1), 0);
        leaves(x, "stuff", x.stuff(0), 2);
        leaves(x, "ease", x.ease(0), 1);
        leaves(x, "carry", x.carry(0, 2), 4);
        leaves(x, "round", x.round(0, 1), 1);
        leaves(x, "from", x.from(4, 0), 28);
        leaves(x, "settle", x.settle(), 1);
        leaves(x, "still", x.still(3), -9);
        leaves(x, "hush", x.hush(3), 0);
        leaves(x, "reading", x.reading(0, 0, 0, 1), 2);
        leaves(x, "back", x.back(3), 0);
        leaves(x, "depths", x.depths(0), 1022);
        leaves(x, "kinds", x.kinds(0), 7);
        leaves(x, "louds", x.louds(0), 1022);
        leaves(x, "walls", x.walls(), 15);
        leaves(x, "odds", x.odds(4, 0), 4);
        leaves(x, "lose", x.lose(0), 1);
        leaves(x, "lose nothing", x.lose(0), 0);
        leaves(x, "tell", x.tell(0), 5);
        leaves(x, "call", x.call(2), 80);
        leaves(x, "many", x.many(0), 5);
        leaves(x, "trace", x.trace() == 0 ? 0 : 1, 1);
        refusalsLeaveIt(x);
    }

    /** Refusals of calls that name no FAULTS. */
    private static void refusalsLeaveIt(ClockWakers x) {
        leaves(x, "ofHouse", x.ofHouse(5, 0), -1);
        leaves(x, "ofClock", x.ofClock(0, 6), -2);
        leaves(x, "drowse", x.drowse(0, 0), -2);
        leaves(x, "tune", x.tune(3, 1), -1);
        leaves(x, "wall", x.wall(4), -2);
        leaves(x, "hears", x.hears(5, 0), Due.LOST);
        leaves(x, "stroke", x.stroke(3), -1);
        leaves(x, "nights", x.nights(0), -2);
        leaves(x, "stuff", x.stuff(1), -3);
        leaves(x, "ease", x.ease(0), -3);
        leaves(x, "carry", x.carry(0, 5), -1);
        leaves(x, "round", x.round(0, 2), -2);
        leaves(x, "from", x.from(5, 0), -1);
        leaves(x, "still", x.still(4), -2);
        leaves(x, "hush", x.hush(5), -1);
        leaves(x, "reading", x.reading(0, 0, 0, 2), -2);
        leaves(x, "back", x.back(9), -2);
        leaves(x, "depths", x.depths(5), -1);
        leaves(x, "kinds", x.kinds(5), -1);
        leaves(x, "louds", x.louds(3), -1);
        leaves(x, "odds", x.odds(0, 2), Due.LOST);
        leaves(x, "lose", x.lose(4), -1);
        leaves(x, "tell", x.tell(5), -1);
        leaves(x, "call", x.call(5), -1);
        leaves(x, "many", x.many(5), -2);
        ClockWakers bare = Twin.bare();
        Due.due("a fault", bare.sheet(2, 0, -1), Due.SIZE);
        leaves(bare, "wall", bare.wall(0), -3);
        leaves(bare, "nights", bare.nights(1), -3);
        leaves(bare, "settle", bare.settle(), -3);
        leaves(bare, "still", bare.still(0), -3);
        leaves(bare, "walls", bare.walls(), -3);
    }

    private static void many() {
        ClockWakers x = Twin.busy();
        Due.promise(37, "OUTSIDE");
        Due.all("what", -2, x.many(-1), x.many(5), x.many(Due.MIN), x.many(Due.MAX));
        Twin.untouched(x);
        Due.promise(37, "0 HOUSES, 1 CLOCKS, 2 WALL, 3 which NIGHT it is, 4 READINGS");
        int[] due = {6, 4, 3, 120, 8};
        ClockWakers most = Due.street("c3;s1;s1;s1;s1;s1;s1,10,10,10,10");
        most.nights(60);
        most.nights(60);
        for (int k = 0; k < 9; k++) {
            most.reading(0, 0, 0, 1);
        }
        for (int what = 0; what <= 4; what++) {
            Due.due("most, what " + what, most.many(what), due[what]);
        }
        ClockWakers least = Due.street("c0;s1;s1,10");
        int[] few = {2, 1, 0, 0, 0};
        for (int what = 0; what <= 4; what++) {
            Due.due("least, what " + what, least.many(what), few[what]);
        }
        ClockWakers longest = Due.street("c0;s1;s1,10");
        // 13 calls made the street, and the last of 512 asks
        for (int k = 0; k < 512 - 13 - 1; k++) {
            longest.nights(60);
        }
        Due.due("as many nights as an object's calls can make", longest.many(3), 60 * 498);
        Due.promise(37, "0 all without a STREET");
        ClockWakers bare = Twin.bare();
        for (int what = 0; what <= 4; what++) {
            Due.due("what " + what, bare.many(what), 0);
        }
        Due.all("what", -2, bare.many(-1), bare.many(5));
    }
}
