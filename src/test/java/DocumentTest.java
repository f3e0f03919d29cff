import java.util.Random;

/**
 * The document from its first line on: what each call answers of one street that is worked out by hand, and the sentences
 * that the edges do not name.
 */
final class DocumentTest {
    /**
     * Wall 2; a baby that needs 3, a sleeper that needs 3, a nervous one that needs 5, a sleeper that needs 8; clock 0 (6)
     * stands in house 3 and wakes nobody, clock 1 (9) in house 2, clock 2 (4) in house 1.
     */
    private static final String FOUR = "c2;b7;s3;n6;s8,63,92,41";

    public static void main(String[] args) {
        calls();
        refusalsAndFaults();
        texts();
        houses();
        clocks();
        changes();
        hearing();
        strokes();
        nights();
        stuffing();
        carrying();
        seasons();
        seasonActs();
        rounds();
        origins();
        settling();
        stillest();
        hushing();
        readings();
        guesses();
        odds();
        sheets();
        cells();
        copies();
        telling();
        kinds();
        faults();
        counts();
        Due.endOf(1, 37);
    }

    private static ClockWakers four() {
        return Due.street(FOUR);
    }

    private static void calls() {
        Due.promise(1, "No STREET (no HOUSES, CLOCKS), SHEETS have nothing");
        ClockWakers x = new ClockWakers();
        for (int k = 0; k < 255; k++) {
            Due.due("call " + (2 * k + 1), x.ofHouse(0, 0), -1);
            Due.due("call " + (2 * k + 2), x.lose(k % 4), 0);
        }
        Due.due("call 511", x.sheet(3, 2, 60), 1);
        Due.due("call 512", x.cell(3, 59, 2), 0);
        // what later calls answer is free, but none may throw or fail to end
        Random random = new Random(512);
        for (int k = 0; k < 20000; k++) {
            later(x, random.nextInt(6), random.nextInt(6), random.nextInt(12) - 2);
        }
        ClockWakers other = new ClockWakers();
        Due.all("another object", 0, other.many(0), other.many(1), other.lose(3), other.trace(), other.fault());
    }

    private static void later(ClockWakers x, int call, int a, int b) {
        switch (call) {
            case 0: x.sheet(a, b, 60); break;
            case 1: x.put(a, b, "c0;s1;s1,10".charAt(a)); break;
            case 2: x.street(a, b, 0, 11); break;
            case 3: x.nights(60 - a); break;
            case 4: x.tell(a); break;
            default: x.season(a, b, 0, 20, b);
        }
    }

    private static void refusalsAndFaults() {
        Due.promise(20, "REFUSALS, in the order in which a call's line tells them: UNKNOWN (there is no such HOUSE, CLOCK, SHEET, place of a row), OUTSIDE (another number is not as told), STATE (as told), FULL");
        ClockWakers x = four();
        for (int k = 0; k < 8; k++) {
            x.reading(0, 3, 3, 0);
        }
        Due.due("UNKNOWN ahead of OUTSIDE and FULL", x.reading(3, 0, 0, 2), ClockWakers.UNKNOWN);
        Due.due("OUTSIDE ahead of FULL", x.reading(2, 0, 0, 2), ClockWakers.OUTSIDE);
        Due.due("FULL", x.reading(2, 0, 0, 1), ClockWakers.FULL);
        Due.due("OUTSIDE ahead of STATE", new ClockWakers().wall(4), ClockWakers.OUTSIDE);
        Due.due("STATE", new ClockWakers().wall(3), ClockWakers.STATE);
        Due.promise(36, "FAULTS are the machine's: 1 NULL (there is nothing), 2 CAST (it is of another lane, kind), 3 INDEX (of cells from i on also where i is not 0 .. how many there are, if none of them is taken, too), 4 SIZE (a length below 0)");
        Due.due("NULL", x.put(0, 0, 0) * 10 + x.fault(), -109);
        Due.due("CAST, a lane", x.street(3, 1, 0, 23) * 10 + x.fault(), -118);
        Due.due("CAST, a kind", x.as(1, 2) * 10 + x.fault(), -118);
        Due.due("INDEX", x.copy(3, 24, 3, 0, 0) * 10 + x.fault(), -127);
        Due.due("SIZE", x.sheet(0, 0, -1) * 10 + x.fault(), -136);
        Due.promise(36, "Of a call the first that is come to, in the order told");
        Due.due("CAST ahead of SIZE ahead of INDEX", x.street(3, 1, 24, -1), Due.CAST);
        Due.due("SIZE ahead of INDEX", x.street(3, 0, 24, -1), Due.SIZE);
        Due.due("INDEX", x.street(3, 0, 24, 0), Due.INDEX);
        Due.promise(4, "NONE is -9");
        Due.due("nobody wakes", x.ofClock(0, 5), -9);
        Due.due("the constant", ClockWakers.NONE, -9);
    }

    private static void texts() {
        Due.promise(2, "A STREET by a TEXT of n cells of a SHEET from i on, taken as a row of a LANE: how many CLOCKS; -100 less the FIRST FAULT");
        ClockWakers x = new ClockWakers();
        Due.write(x, 1, 1, Due.codes("??" + FOUR + "?"));
        Due.due("the first of its cells", x.street(1, 1, 0, 26), -100);
        Due.due("one cell more", x.street(1, 1, 2, 24), -123);
        Due.due("its last clock has no house", x.street(1, 1, 2, 22), -122);
        Due.due("three clocks", x.street(1, 1, 2, 23), 3);
        Due.promise(2, "FAULTS CAST (nothing is no CAST), NULL, SIZE: n is below 0, INDEX: not all cells are there; -100 less it");
        Due.due("CAST", x.street(1, 0, 2, 23), Due.CAST);
        Due.due("NULL", x.street(0, 0, 2, 23), Due.NULL);
        Due.due("SIZE", x.street(1, 1, 2, -23), Due.SIZE);
        Due.due("INDEX", x.street(1, 1, 4, 23), Due.INDEX);
        Due.due("the FIRST FAULT", x.street(1, 1, 3, 23), -100);
        Due.promise(2, "A STREET by a TEXT: c, a digit 0 .. 3 (WALL), then 2 to 6 HOUSES, numbered from 0 on, each: ; and a letter, a digit 1 .. 9 (DEPTH), then 1 to 4 CLOCKS, numbered from 0 on, each: , and a digit 1 .. 9 (LOUD), a digit (the HOUSE in which it stands; there must be such a one)");
        Due.all("many", 0, x.many(0) - 4, x.many(1) - 3, x.many(2) - 2);
        Due.promise(2, "(Codes: c 99, s 115, n 110, b 98, ; 59, the comma 44, digits 48 .. 57.) Kinds: 0 SLEEPER (s); 1 NERVOUS (n), a SLEEPER; 2 BABY (b), a NERVOUS one");
        Due.write(x, 0, 2, 99, 48, 59, 115, 49, 59, 110, 57, 59, 98, 53, 44, 57, 50);
        Due.due("told by codes", x.street(0, 2, 0, 14), 1);
        Due.all("kinds", 0, x.ofHouse(0, 0), x.ofHouse(1, 0) - 1, x.ofHouse(2, 0) - 2);
        Due.all("digits", 0, x.many(2), x.ofHouse(0, 1) - 1, x.ofHouse(1, 1) - 9, x.ofHouse(2, 1) - 5, x.ofClock(0, 0) - 9, x.ofClock(0, 2) - 2);
        Due.promise(2, "FIRST FAULT: the place (from 0 on) of the first code with which no TEXT goes on (the ; of a seventh HOUSE, the , of a fifth CLOCK); how many codes there are, if it just ends too soon");
        Due.due("there is no house 4", Due.read(x, "c2;b7;s3;n6;s8,64"), -116);
        Due.due("it ends behind a comma", Due.read(x, "c2;b7;s3,"), -109);
        Due.due("a letter in its place", Due.read(x, "c2;b7;c3,60"), -106);
    }

    private static void houses() {
        Due.promise(3, "Of a HOUSE: 0 kind, 1 DEPTH, 2 what he NEEDS, 3 CLOCKS that stand there, as a set, 4 CLOCKS by which he WAKES, as a set. UNKNOWN; OUTSIDE");
        int[][] due = {{2, 7, 3, 0, 0b010, -2}, {0, 3, 3, 0b100, 0b110, -2}, {1, 6, 5, 0b010, 0b010, -2}, {0, 8, 8, 0b001, 0, -2}, {-1, -1, -1, -1, -1, -1}};
        table("ofHouse", due, ofHouses(four()));
        Due.promise(3, "NEEDS: how much one must hear to WAKE: a SLEEPER DEPTH; a NERVOUS one 1 less; a BABY half of what a SLEEPER does");
        ClockWakers x = Due.street("c0;s7;n7;b7,70");
        int[] needs = {7, 6, 3};
        for (int h = 0; h < 3; h++) {
            Due.due("of depth 7", x.ofHouse(h, 2), needs[h]);
            x.tune(0, needs[h]);
            Due.due("he wakes by as much", x.ofHouse(h, 4), 1);
            x.tune(0, needs[h] - 1);
            Due.due("and not by less", x.ofHouse(h, 4), 0);
        }
        Due.promise(3, "Quotients are cut");
        Due.due("half of 7", x.ofHouse(2, 2), 3);
        Due.promise(3, "Sets are told as bits (bit k for number k)");
        Due.due("clocks 1 and 3", Due.street("c0;s9;s9,11,10,11,10").ofHouse(0, 3), 1 << 1 | 1 << 3);
    }

    private static int[][] ofHouses(ClockWakers x) {
        int[][] got = new int[5][6];
        for (int h = 0; h < got.length; h++) {
            for (int what = 0; what < 6; what++) {
                got[h][what] = x.ofHouse(h, what);
            }
        }
        return got;
    }

    private static void table(String call, int[][] due, int[][] got) {
        for (int k = 0; k < due.length; k++) {
            for (int j = 0; j < due[k].length; j++) {
                Due.due(call + "(" + k + ", " + j + ")", got[k][j], due[k][j]);
            }
        }
    }

    private static void clocks() {
        Due.promise(4, "Of a CLOCK: 0 LOUD, 1 SOUND, 2 the HOUSE where it stands, 3 whether it is STUFFED (1, 0), 4 who WAKES by it, as a set, 5 who would OWN it by a STROKE (NONE: nobody WAKES). UNKNOWN; OUTSIDE");
        int[][] due = {{6, 6, 3, 0, 0, -9, -2}, {9, 9, 2, 0, 0b0111, 1, -2}, {4, 4, 1, 0, 0b0010, 1, -2}, {-1, -1, -1, -1, -1, -1, -1}};
        ClockWakers x = four();
        table("ofClock", due, ofClocks(x));
        Due.promise(4, "SOUND of a CLOCK: LOUD; half of it, if it is STUFFED");
        x.stuff(1);
        due[1] = new int[] {9, 4, 2, 1, 0, -9, -2};
        table("ofClock, stuffed", due, ofClocks(x));
        Due.promise(4, "One WAKES by a CLOCK, if he HEARS no less than he NEEDS, and more than 0");
        ClockWakers light = Due.street("c1;b1;s1;s9,22,12");
        Due.due("2 and 1 less walls, of who needs nothing and who needs 1", light.ofClock(0, 4), 0b010);
        Due.due("1 and 0 less walls", light.ofClock(1, 4), 0);
    }

    private static int[][] ofClocks(ClockWakers x) {
        int[][] got = new int[4][7];
        for (int c = 0; c < got.length; c++) {
            for (int what = 0; what < 7; what++) {
                got[c][what] = x.ofClock(c, what);
            }
        }
        return got;
    }

    private static void changes() {
        ClockWakers x = four();
        Due.promise(5, "DEPTH of a HOUSE becomes v (1 .. 9): what it was. UNKNOWN; OUTSIDE");
        Due.due("drowse", x.drowse(2, 9), 6);
        Due.due("he needs 8 now", x.ofHouse(2, 2), 8);
        Due.due("and hears 9", x.ofHouse(2, 4), 0b010);
        Due.all("refused", 0, x.drowse(4, 1) + 1, x.drowse(2, 10) + 2, x.ofHouse(2, 1) - 9);
        Due.promise(6, "LOUD of a CLOCK becomes v (1 .. 9): what it was. UNKNOWN; OUTSIDE");
        Due.due("tune", x.tune(1, 8), 9);
        Due.due("house 2 hears 8, house 1 hears 6, house 0 hears 4", x.ofClock(1, 4), 0b0111);
        Due.all("refused", 0, x.tune(3, 1) + 1, x.tune(1, 0) + 2, x.ofClock(1, 0) - 8);
        Due.promise(7, "WALL becomes v (0 .. 3): what it was. OUTSIDE; STATE: there is no STREET");
        Due.due("wall", x.wall(0), 2);
        Due.due("all hear 8", x.ofClock(1, 4), 0b1111);
        Due.due("many", x.many(2), 0);
        Due.all("refused", 0, x.wall(4) + 2, x.many(2), new ClockWakers().wall(0) + 3);
    }

    private static void hearing() {
        Due.promise(8, "What one HEARS of a CLOCK. LOST: UNKNOWN: HOUSE, CLOCK");
        ClockWakers x = four();
        long[][] due = {{0, 5, 2, Due.LOST}, {2, 7, 4, Due.LOST}, {4, 9, 2, Due.LOST}, {6, 7, 0, Due.LOST}, {Due.LOST, Due.LOST, Due.LOST, Due.LOST}};
        for (int h = 0; h < 5; h++) {
            for (int c = 0; c < 4; c++) {
                Due.due("hears(" + h + ", " + c + ")", x.hears(h, c), due[h][c]);
            }
        }
        Due.promise(8, "HEARS: SOUND less WALL for each HOUSE that it is farther on or back (below 0, too)");
        x.wall(3);
        x.stuff(0);
        Due.due("3 less three walls of 3", x.hears(0, 0), -6);
    }

    private static void strokes() {
        Due.promise(9, "A STROKE: who OWNS it by that; NONE: nobody WAKES. UNKNOWN");
        ClockWakers x = four();
        Due.due("nobody wakes", x.stroke(0), -9);
        Due.due("house 1 hears 4 more than he needs, house 2, too", x.stroke(1), 1);
        Due.due("house 1 alone wakes", x.stroke(2), 1);
        Due.due("no such clock", x.stroke(3), -1);
        Due.promise(9, "A STROKE of a CLOCK: of all who WAKE by it the one who HEARS the most more than he NEEDS (of several the least HOUSE) OWNS it: it stands with him from then on; it stays, if nobody WAKES");
        Due.all("where they stand", 0, x.ofClock(0, 2) - 3, x.ofClock(1, 2) - 1, x.ofClock(2, 2) - 1, x.ofHouse(1, 3) - 0b110);
    }

    private static void nights() {
        Due.promise(10, "n NIGHTS (1 .. 60): how many CLOCKS stand elsewhere than they did. OUTSIDE; STATE: there is no STREET");
        ClockWakers x = four();
        Due.due("clock 1 does", x.nights(1), 1);
        Due.due("none does", x.nights(60), 0);
        Due.due("61 nights in all", x.many(3), 61);
        Due.all("refused", 0, x.nights(61) + 2, new ClockWakers().nights(1) + 3);
        Due.promise(10, "A NIGHT: a STROKE of each CLOCK, one behind another");
        ClockWakers all = Due.street("c0;s9;s1;s9,90,82,70,62");
        Due.due("each strikes", all.nights(1), 4);
        Due.due("all stand in house 1", all.ofHouse(1, 3), 0b1111);
    }

    private static void stuffing() {
        Due.promise(11, "A CLOCK is STUFFED: how many are. UNKNOWN; STATE: it is");
        ClockWakers x = four();
        Due.all("stuff", 0, x.stuff(2) - 1, x.stuff(0) - 2, x.stuff(0) + 3, x.stuff(3) + 1);
        Due.promise(12, "A CLOCK is EASED: how many are STUFFED yet. UNKNOWN; STATE: it is not STUFFED");
        Due.all("ease", 0, x.ease(2) - 1, x.ease(2) + 3, x.ease(3) + 1, x.ease(0));
        Due.promise(12, "A CLOCK is STUFFED, is EASED (it is STUFFED no longer)");
        Due.all("sounds", 0, x.ofClock(0, 1) - 6, x.ofClock(2, 1) - 4);
    }

    private static void carrying() {
        Due.promise(13, "A CLOCK is carried to a HOUSE: where it stood. UNKNOWN: CLOCK, HOUSE");
        ClockWakers x = four();
        Due.due("carry", x.carry(0, 0), 3);
        Due.due("it is heard there", x.hears(0, 0), 6);
        Due.due("it wakes houses 0 and 1", x.ofClock(0, 4), 0b0011);
        Due.all("refused", -1, x.carry(3, 0), x.carry(0, 4));
        Due.due("it stands there", x.ofClock(0, 2), 0);
    }

    private static void seasons() {
        // clock 1 goes to house 1; by three nights it stays, and nobody hears clock 0; clock 2, stuffed, wakes nobody in house 0
        int[] acts = {1, 0, 3, 3, 2, 1, 0, 12, 2, 0, 2, 2, 2, 2};
        int[] asks = {0, 1, 2, 3, 4, 10, 11, 12, 13};
        int[] due = {0, -9, 1, 4, 0b1011, 3, 1, 0, -9};
        ClockWakers x = four();
        Due.write(x, 2, 0, acts);
        Due.promise(14, "A SEASON of n pairs, that are cells of a SHEET from i on (2 n): which CLOCKS are STUFFED then, as a set (what 0), its FIRST WRONG (1; NONE), how often a STROKE carried a CLOCK elsewhere in it (2), how many STROKES nobody woke by (3), HOUSES in which a CLOCK stands then, as a set (4), the HOUSE where CLOCK c stands then (10 and c; NONE: there is no such CLOCK); of one with a FIRST WRONG: -100 less that (but what 1)");
        for (int k = 0; k < asks.length; k++) {
            Due.due("six acts, what " + asks[k], x.season(2, 0, 0, 6, asks[k]), due[k]);
            Due.due("the seventh can't be, what " + asks[k], x.season(2, 0, 0, 7, asks[k]), asks[k] == 1 ? 6 : -106);
        }
        Due.due("up to its stuffing", x.season(2, 0, 0, 3, 0), 0b100);
        Due.all("nothing is changed", 0, x.ofClock(1, 2) - 2, x.ofClock(2, 2) - 1, x.many(3));
    }

    private static void seasonActs() {
        Due.promise(14, "A SEASON told: a row of pairs, one behind another, from how all is now (nothing is changed): a CLOCK and 0: a STROKE of it; and 1: it is STUFFED (it is not yet); and 2: it is EASED (it is STUFFED); 0 .. 9 and 3: so many NIGHTS; a HOUSE and 10 .. 13: the CLOCK that is 10 less is carried there. FIRST WRONG: the first act that can't be (there is no such CLOCK to be carried, too)");
        ClockWakers x = four();
        x.stuff(0);
        Due.due("a stroke of clock 1", Due.season(x, 11, 1, 0), 1);
        Due.due("clock 1 is stuffed, too", Due.season(x, 0, 1, 1), 0b011);
        Due.due("clock 0 is eased", Due.season(x, 0, 0, 2), 0);
        Due.due("two nights of two that nobody hears", Due.season(x, 3, 1, 1, 2, 3), 4);
        Due.due("clock 2 is carried to house 3", Due.season(x, 12, 3, 12), 3);
        Due.due("there is no clock 3", Due.season(x, 1, 0, 3, 3, 13), 1);
    }

    private static void rounds() {
        Due.promise(15, "ROUND: behind how many STROKES (what 0), by how many (1). UNKNOWN; OUTSIDE");
        ClockWakers x = four();
        int[][] due = {{0, 1, -2}, {1, 1, -2}, {0, 1, -2}, {-1, -1, -1}};
        int[][] got = new int[4][3];
        for (int c = 0; c < 4; c++) {
            for (int what = 0; what < 3; what++) {
                got[c][what] = x.round(c, what);
            }
        }
        table("round", due, got);
        Due.promise(15, "ROUND of a CLOCK: by STROKES of it alone: behind how many it first stands where it comes back to; by how many it does");
        x.stroke(1);
        Due.due("it stands there now", x.round(1, 0), 0);
    }

    private static void origins() {
        Due.promise(16, "FROM, as a set. UNKNOWN: HOUSE, CLOCK");
        ClockWakers x = four();
        int[][] due = {{0b0001, 0b0001, 0b0001, -1}, {0b0110, 0b1110, 0b0010, -1}, {0, 0, 0, -1}, {0, 0, 0, -1}, {-1, -1, -1, -1}};
        int[][] got = new int[5][4];
        for (int h = 0; h < 5; h++) {
            for (int c = 0; c < 4; c++) {
                got[h][c] = x.from(h, c);
            }
        }
        table("from", due, got);
        Due.promise(16, "FROM of a HOUSE and a CLOCK: HOUSES from which by a STROKE of it he OWNS it");
        for (int at = 0; at < 4; at++) {
            x.carry(1, at);
            Due.due("by a stroke from house " + at, x.stroke(1), at == 0 ? 0 : 1);
        }
    }

    private static void settling() {
        Due.promise(17, "SETTLE; NONE. STATE: there is no STREET");
        ClockWakers x = four();
        Due.due("clock 1 goes once", x.settle(), 1);
        Due.due("no street", new ClockWakers().settle(), -3);
        Due.promise(17, "SETTLE: behind how many NIGHTS (0 .. 99) all CLOCKS stand where they stand another NIGHT on; NONE: not by then");
        x.nights(1);
        Due.due("by now none goes", x.settle(), 0);
    }

    private static void stillest() {
        Due.promise(18, "STILL: how many WAKE (k -1), the HOUSE of CLOCK k (0 .. 3); NONE: there is no such CLOCK. OUTSIDE; STATE: there is no STREET");
        ClockWakers x = four();
        int[] due = {-2, 3, 0, 0, 0, -9, -2};
        for (int k = -2; k <= 4; k++) {
            Due.due("clock 1 wakes three, wherever: still(" + k + ")", x.still(k), due[k + 2]);
        }
        Due.promise(18, "STILL: CLOCKS put into HOUSES (STUFFED or not as they are) so that the fewest WAKE by any of them: of several rows (of HOUSES of CLOCK 0, 1, ..) the first");
        x.stuff(1);
        int[] stuffed = {-2, 0, 3, 2, 2, -9, -2};
        for (int k = -2; k <= 4; k++) {
            Due.due("clock 1 stuffed: still(" + k + ")", x.still(k), stuffed[k + 2]);
        }
    }

    private static void hushing() {
        Due.promise(19, "HUSH, as a set; NONE. UNKNOWN");
        ClockWakers x = four();
        int[] due = {0b010, 0b110, 0b010, 0, -1};
        for (int h = 0; h < 5; h++) {
            Due.due("hush(" + h + ")", x.hush(h), due[h]);
        }
        Due.promise(19, "HUSH of a HOUSE: the fewest CLOCKS, that are not STUFFED yet, to be STUFFED so that he WAKES by none where they stand: as a set (there is but one such); NONE: it can't be");
        x.tune(2, 9);
        Due.due("half of 9 in his own house", x.hush(1), -9);
        Due.due("half of 9 through a wall of 2", x.hush(0), 0b110);
    }

    private static void readings() {
        Due.promise(20, "A READING: its number. UNKNOWN: CLOCK, HOUSE where it stands, HOUSE of who WAKES; OUTSIDE: woke (0, 1); FULL");
        ClockWakers x = four();
        Due.all("numbers", 0, x.reading(1, 2, 2, 1), x.reading(1, 2, 3, 0) - 1, x.reading(2, 1, 0, 1) - 2);
        Due.all("refused", 0, x.reading(3, 0, 0, 0) + 1, x.reading(0, 4, 0, 0) + 1, x.reading(0, 0, 4, 0) + 1, x.reading(0, 0, 0, 2) + 2);
        Due.due("many", x.many(4), 3);
        Due.promise(21, "The last n READINGS (0 .. as many as there are) are taken back: how many are left. OUTSIDE");
        Due.all("back", 0, x.back(4) + 2, x.back(2) - 1, x.back(1), x.back(1) + 2);
    }

    private static void guesses() {
        ClockWakers x = four();
        x.reading(1, 2, 2, 1);
        x.reading(1, 2, 3, 0);
        Due.promise(22, "DEPTHS, as a set. UNKNOWN");
        Due.all("depths", 0, x.depths(0) - 1022, x.depths(2) - 1022, x.depths(3) - 0b1100000000, x.depths(4) + 1);
        Due.promise(23, "KINDS, as a set. UNKNOWN");
        Due.all("kinds", 0, x.kinds(0) - 0b111, x.kinds(2) - 0b111, x.kinds(3) - 0b001, x.kinds(4) + 1);
        Due.promise(24, "LOUDS, as a set. UNKNOWN");
        Due.all("louds", 0, x.louds(0) - 1022, x.louds(1) - 0b1111100000, x.louds(3) + 1);
        Due.promise(25, "WALLS, as a set. STATE: there is no STREET");
        Due.all("walls", 0, x.walls() - 0b1100, new ClockWakers().walls() + 3);
        // the baby of house 0 hears 2 of clock 2 and needs 3, but is told to wake
        x.reading(2, 1, 0, 1);
        Due.promise(22, "by a CLOCK, standing in a HOUSE (STUFFED or not as it is now), one WAKES (1) or not (0). All that follows: in place of what it is alone, by which all READINGS are so: DEPTHS of a HOUSE: 1 .. 9; KINDS of a HOUSE: 0 .. 2; LOUDS of a CLOCK: 1 .. 9; WALLS: 0 .. 3; as sets");
        Due.all("depths", 0, x.depths(0) - 0b111110, x.depths(2), x.depths(3));
        Due.all("kinds", 0, x.kinds(0), x.kinds(2));
        Due.all("louds", 0, x.louds(2) - 0b1111100000, x.louds(1), x.louds(0));
        Due.due("walls", x.walls(), 0);
    }

    private static void odds() {
        Due.promise(26, "ODDS (which 0 the upper, 1 the lower number). LOST: UNKNOWN; OUTSIDE");
        ClockWakers x = four();
        long[][] due = {{7, 12}, {2, 3}, {5, 12}, {1, 12}};
        for (int h = 0; h < 4; h++) {
            Due.due("upper of " + h, x.odds(h, 0), due[h][0]);
            Due.due("lower of " + h, x.odds(h, 1), due[h][1]);
        }
        Due.all("refused", Due.LOST, x.odds(4, 0), x.odds(0, 2));
        Due.promise(26, "ODDS of a HOUSE: if any CLOCK, standing in any HOUSE, strikes, all alike: the share by which he WAKES");
        x.nights(9);
        Due.due("where they stand is no matter", x.odds(1, 1), 3);
    }

    private static void sheets() {
        Due.promise(27, "SHEETS 0 .. 3 have nothing (at first), or a row of 0 .. 60 numbers (0 at first) of a LANE: 0 bytes, 1 shorts, 2 ints; what comes to a cell of it is cut to its LANE");
        ClockWakers x = new ClockWakers();
        for (int lane = 0; lane <= 2; lane++) {
            Due.due("it has nothing", x.lose(lane), 0);
            Due.due("sheet", x.sheet(lane, lane, 2), 1);
            Due.due("put", x.put(lane, 1, 0x12345678), 1);
            Due.due("0 at first", x.cell(lane, 0, lane), 0);
        }
        Due.all("cut", 0, x.cell(0, 1, 0) - 0x78, x.cell(1, 1, 1) - 0x5678, x.cell(2, 1, 2) - 0x12345678);
        Due.promise(27, "A SHEET gets a new row: 1. UNKNOWN; OUTSIDE: lane, n above 60; SIZE");
        Due.all("refused", 0, x.sheet(4, 0, 1) + 1, x.sheet(0, 3, 1) + 2, x.sheet(0, 0, 61) + 2, x.sheet(0, 0, -1) - Due.SIZE);
        Due.promise(28, "A SHEET has nothing: 1; 0: it had nothing. UNKNOWN");
        Due.all("lose", 0, x.lose(1) - 1, x.lose(1), x.lose(4) + 1);
    }

    private static void cells() {
        ClockWakers x = new ClockWakers();
        x.sheet(1, 0, 3);
        Due.promise(29, "Cell i of a SHEET becomes v: 1. UNKNOWN; NULL; INDEX");
        Due.all("put", 0, x.put(1, 2, 200) - 1, x.put(4, 2, 0) + 1, x.put(0, 2, 0) - Due.NULL, x.put(1, 3, 0) - Due.INDEX);
        Due.promise(30, "Cell i of what a SHEET has, taken as a row of a LANE. LOST: UNKNOWN, OUTSIDE: lane; FAULTS CAST (nothing is no CAST), NULL, INDEX");
        Due.due("cell", x.cell(1, 2, 0), -56);
        long[][] lost = {{x.cell(4, 2, 0), x.fault()}, {x.cell(1, 2, 3), x.fault()}, {x.cell(1, 2, 1), x.fault()}, {x.cell(0, 2, 1), x.fault()}, {x.cell(1, 3, 0), x.fault()}};
        int[] faults = {0, 0, 2, 1, 3};
        for (int k = 0; k < faults.length; k++) {
            Due.due("LOST", lost[k][0], Due.LOST);
            Due.due("fault()", lost[k][1], faults[k]);
        }
    }

    private static void copies() {
        Due.promise(31, "n cells of a SHEET from i on go to another one (perhaps the same) from j on, as they were: n. UNKNOWN; FAULTS NULL (the first, the other), CAST (unlike LANES), INDEX: i, j, n below 0 or beyond");
        ClockWakers x = new ClockWakers();
        Due.write(x, 0, 2, 10, 20, 30, 40);
        Due.write(x, 1, 2, 1, 2, 3);
        x.sheet(2, 1, 4);
        Due.due("copy", x.copy(0, 2, 1, 1, 2), 2);
        Due.all("the other", 0, x.cell(1, 0, 2) - 1, x.cell(1, 1, 2) - 30, x.cell(1, 2, 2) - 40);
        Due.due("within one", x.copy(0, 0, 0, 1, 3), 3);
        Due.all("as they were", 0, x.cell(0, 0, 2) - 10, x.cell(0, 1, 2) - 10, x.cell(0, 2, 2) - 20, x.cell(0, 3, 2) - 30);
        Due.all("refused", 0, x.copy(0, 0, 4, 0, 1) + 1, x.copy(3, 0, 0, 0, 1) - Due.NULL, x.copy(0, 0, 2, 0, 1) - Due.CAST, x.copy(0, 0, 1, 0, 4) - Due.INDEX);
    }

    private static void telling() {
        ClockWakers x = four();
        Due.promise(32, "TELLING of a HOUSE. UNKNOWN");
        Due.all("tell", 0, x.tell(0) - 114, x.tell(1) - 3, x.tell(2) - 106, x.tell(3) - 8, x.tell(4) + 1);
        Due.promise(33, "How it is CALLED. UNKNOWN");
        Due.all("call", 0, x.call(0) - 80, x.call(1) - 1, x.call(2) - 2, x.call(3) - 3, x.call(4) + 1);
        Due.promise(35, "TELLING of HOUSES by bodies that leave their number in TRACE (an int that wraps, 0 at first, becomes 31 times it and the number) as they begin: SLEEPER (1): DEPTH. NERVOUS (2): what SLEEPER's gives, and 100. BABY (3): what NERVOUS's gives, and what SLEEPER's gives (NERVOUS's left out). CALLED by a lent body (4): its number; BABIES have their own (5): 80");
        int trace = 0;
        for (int number : new int[] {3, 2, 1, 1, 1, 2, 1, 1, 5, 4, 4, 4}) {
            trace = 31 * trace + number;
        }
        Due.due("trace", x.trace(), trace);
        Due.promise(35, "TRACE");
        Due.due("of a new one", new ClockWakers().trace(), 0);
    }

    private static void kinds() {
        Due.promise(34, "A HOUSE, taken as one of a kind: 1. UNKNOWN; OUTSIDE; CAST: it is none (each is a SLEEPER, too; a BABY is a NERVOUS one)");
        ClockWakers x = four();
        int[][] due = {{1, 1, 1, -2}, {1, Due.CAST, Due.CAST, -2}, {1, 1, Due.CAST, -2}, {1, Due.CAST, Due.CAST, -2}, {-1, -1, -1, -1}};
        int[][] got = new int[5][4];
        for (int h = 0; h < 5; h++) {
            for (int kind = 0; kind < 4; kind++) {
                got[h][kind] = x.as(h, kind);
            }
        }
        table("as", due, got);
    }

    private static void faults() {
        Due.promise(36, "The FAULT of the latest call that names one: 0: it came to none, or was refused (0 ahead of any)");
        ClockWakers x = four();
        Due.due("none yet", x.fault(), 0);
        Due.due("CAST", x.as(1, 1), Due.CAST);
        Due.due("a call that names none", x.stroke(0), -9);
        Due.due("the latest that names one", x.fault(), 2);
        Due.due("refused", x.as(4, 1), -1);
        Due.due("it was refused", x.fault(), 0);
    }

    private static void counts() {
        Due.promise(37, "How many: 0 HOUSES, 1 CLOCKS, 2 WALL, 3 which NIGHT it is, 4 READINGS (0 all without a STREET). OUTSIDE");
        ClockWakers x = four();
        x.nights(7);
        x.reading(0, 0, 0, 1);
        int[] due = {-2, 4, 3, 2, 7, 1, -2};
        for (int what = -1; what <= 5; what++) {
            Due.due("many(" + what + ")", x.many(what), due[what + 1]);
        }
    }
}
