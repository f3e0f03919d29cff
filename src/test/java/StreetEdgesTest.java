/** The edges of promises 1 to 8, sentence by sentence. */
final class StreetEdgesTest {
    /** Six houses and four clocks: as long as a text can be. */
    private static final String LONGEST = "c1;s5;n4;b6;s9;n1;s2,92,50,74,15";
    private static final String LETTERS = "snb", DIGITS = "123456789";

    public static void main(String[] args) {
        newObject();
        newSheets();
        eachCodeAtEachPlace();
        howManyHousesAndClocks();
        houseOfAClock();
        endsTooSoon();
        goesOnTooLong();
        placesInTheText();
        codesAreNotCut();
        firstFaultChangesNothing();
        streetRefusals();
        streetCells();
        takenMakesAllAnew();
        ofHouse();
        needs();
        wakes();
        ofClock();
        owner();
        drowse();
        tune();
        wall();
        hears();
        Due.endOf(1, 8);
    }

    private static void newObject() {
        ClockWakers x = new ClockWakers();
        Due.promise(1, "No STREET (no HOUSES, CLOCKS)");
        for (int what = 0; what <= 4; what++) {
            Due.due("many(" + what + ")", x.many(what), 0);
        }
        Due.all("no HOUSE 0", -1, x.ofHouse(0, 0), x.drowse(0, 1), x.from(0, 0), x.hush(0), x.depths(0), x.kinds(0),
            x.tell(0), x.call(0), x.as(0, 0));
        Due.all("no CLOCK 0", -1, x.ofClock(0, 0), x.tune(0, 1), x.stroke(0), x.stuff(0), x.ease(0), x.carry(0, 0),
            x.round(0, 0), x.louds(0), x.reading(0, 0, 0, 0));
        Due.all("no STREET", -3, x.wall(0), x.nights(1), x.settle(), x.still(-1), x.still(0), x.walls());
        Due.all("neither", Due.LOST, x.hears(0, 0), x.odds(0, 0), x.odds(0, 1));
        Due.all("trace(), fault(), back(0)", 0, x.trace(), x.fault(), x.back(0));
        ClockWakers busy = Twin.busy();
        Due.due("a street of another object", busy.many(0), 5);
        Due.all("is no street of this one", 0, x.many(0), x.trace(), new ClockWakers().many(0));
    }

    private static void newSheets() {
        Due.promise(1, "SHEETS have nothing");
        for (int k = 0; k <= 3; k++) {
            ClockWakers x = new ClockWakers();
            Due.all("nothing in sheet " + k, Due.NULL, x.put(k, 0, 0), x.copy(k, 0, k, 0, 0), x.street(k, 0, 0, 0), x.season(k, 0, 0, 0, 0));
            Due.due("cell of it", x.cell(k, 0, 0), Due.LOST);
            Due.due("its fault", x.fault(), 1);
            Due.due("lose", x.lose(k), 0);
        }
    }

    /** The codes with which a text goes on at a place of the longest one. */
    private static String codesAt(int place) {
        if (place < 2) {
            return place == 0 ? "c" : "0123";
        }
        boolean inHouses = place < 20;
        switch ((place - 2) % 3) {
            case 0:
                return place == 32 ? "" : !inHouses ? "," : place < 8 ? ";" : ";,";
            case 1:
                return inHouses ? LETTERS : DIGITS;
            default:
                return inHouses ? DIGITS : "012345";
        }
    }

    private static void eachCodeAtEachPlace() {
        Due.promise(2, "the first code with which no TEXT goes on");
        for (int place = 0; place <= LONGEST.length(); place++) {
            ClockWakers x = new ClockWakers();
            Due.write(x, 0, 2, Due.codes(LONGEST + " "));
            for (int code = -2; code <= 130; code++) {
                x.put(0, place, code);
                Due.due("code " + code + " at " + place, x.street(0, 2, 0, place + 1), answerOf(code, place));
            }
            int[] far = {Due.MIN, Due.MAX, 256 + 'c', 256 + ';', 65536 + '1', 's' - 256, '1' - 65536};
            for (int code : far) {
                x.put(0, place, code);
                Due.due("code " + code + " at " + place, x.street(0, 2, 0, place + 1), -100 - place);
            }
        }
    }

    private static int answerOf(int code, int place) {
        if (code < 0 || codesAt(place).indexOf(code) < 0) {
            return -100 - place;
        }
        boolean endsBehindAClock = place >= 22 && (place - 22) % 3 == 0;
        return endsBehindAClock ? (place - 22) / 3 + 1 : -100 - (place + 1);
    }

    private static void taken(String text, int houses, int clocks) {
        ClockWakers x = new ClockWakers();
        Due.due("street of " + text, Due.read(x, text), clocks);
        Due.due("houses of " + text, x.many(0), houses);
        Due.due("clocks of " + text, x.many(1), clocks);
    }

    private static void firstFault(String text, int place) {
        ClockWakers x = new ClockWakers();
        Due.due("street of " + text, Due.read(x, text), -100 - place);
        Due.due("fault() of " + text, x.fault(), 0);
        Due.due("houses of " + text, x.many(0), 0);
    }

    private static void howManyHousesAndClocks() {
        Due.promise(2, "then 2 to 6 HOUSES");
        for (int houses = 2; houses <= 6; houses++) {
            taken("c0" + ";s1".repeat(houses) + ",10", houses, 1);
        }
        firstFault("c0,10", 2);
        firstFault("c0;s1,10", 5);
        Due.promise(2, "the ; of a seventh HOUSE");
        firstFault("c0" + ";s1".repeat(7) + ",10", 20);
        firstFault("c0" + ";s1".repeat(6) + ";", 20);
        Due.promise(2, "then 1 to 4 CLOCKS");
        for (int clocks = 1; clocks <= 4; clocks++) {
            taken("c0;s1;s1" + ",10".repeat(clocks), 2, clocks);
        }
        firstFault("c0;s1;s1", 8);
        Due.promise(2, "the , of a fifth CLOCK");
        firstFault("c0;s1;s1" + ",10".repeat(5), 20);
        firstFault("c0;s1;s1" + ",10".repeat(4) + ",", 20);
    }

    private static void houseOfAClock() {
        Due.promise(2, "the HOUSE in which it stands; there must be such a one");
        for (int houses = 2; houses <= 6; houses++) {
            String text = "c0" + ";s1".repeat(houses) + ",10,9";
            for (int digit = 0; digit <= 9; digit++) {
                if (digit < houses) {
                    taken(text + digit, houses, 2);
                } else {
                    firstFault(text + digit, text.length());
                }
            }
            firstFault(text + "/", text.length());
            firstFault(text + ":", text.length());
        }
    }

    private static void endsTooSoon() {
        Due.promise(2, "how many codes there are, if it just ends too soon");
        firstFault("", 0);
        for (int n = 0; n < LONGEST.length(); n++) {
            boolean endsBehindAClock = n == 23 || n == 26 || n == 29;
            if (endsBehindAClock) {
                taken(LONGEST.substring(0, n), 6, (n - 20) / 3);
            } else {
                firstFault(LONGEST.substring(0, n), n);
            }
        }
        taken(LONGEST, 6, 4);
    }

    private static void goesOnTooLong() {
        Due.promise(2, "the first code with which no TEXT goes on");
        for (String more : new String[] {";", ";s1", "c", "1", " ", "\0"}) {
            firstFault("c0;s1;s1,10" + more, 11);
            firstFault("c0;s1;s1,10,10" + more, 14);
            firstFault(LONGEST + more, 32);
        }
        firstFault(LONGEST + " ".repeat(60 - LONGEST.length()), 32);
        firstFault("c0;s1;s1,10,", 12);
    }

    private static void placesInTheText() {
        Due.promise(2, "A STREET by a TEXT of n cells of a SHEET from i on");
        for (int k = 0; k <= 3; k++) {
            for (int lane = 0; lane <= 2; lane++) {
                ClockWakers x = new ClockWakers();
                Due.write(x, k, lane, Due.codes("cc0;s1;s1,10;"));
                Due.due("the text within the row", x.street(k, lane, 1, 11), 1);
                Due.due("a cell too early", x.street(k, lane, 0, 12), -101);
                Due.due("a cell too late", x.street(k, lane, 2, 10), -100);
                Due.due("a cell too many", x.street(k, lane, 1, 12), -111);
                Due.due("a cell too few", x.street(k, lane, 1, 10), -110);
                Due.due("no cell", x.street(k, lane, 1, 0), -100);
            }
        }
        ClockWakers last = new ClockWakers();
        last.sheet(0, 0, 60);
        for (int i = 0; i < 11; i++) {
            last.put(0, 49 + i, "c0;s1;s1,10".charAt(i));
        }
        Due.due("up to the row's last cell", last.street(0, 0, 49, 11), 1);
        Due.due("and one on", last.street(0, 0, 49, 12), Due.INDEX);
    }

    private static void codesAreNotCut() {
        Due.promise(2, "taken as a row of a LANE");
        int[] codes = Due.codes("c0;s1;s1,10");
        codes[0] += 256;
        int[] due = {1, -100, -100};
        for (int lane = 0; lane <= 2; lane++) {
            ClockWakers x = new ClockWakers();
            Due.write(x, 0, lane, codes);
            Due.due("256 more, in lane " + lane, x.street(0, lane, 0, 11), due[lane]);
        }
        codes[0] += 65536 - 256;
        int[] farther = {1, 1, -100};
        for (int lane = 0; lane <= 2; lane++) {
            ClockWakers x = new ClockWakers();
            Due.write(x, 0, lane, codes);
            Due.due("65536 more, in lane " + lane, x.street(0, lane, 0, 11), farther[lane]);
        }
    }

    private static void firstFaultChangesNothing() {
        Due.promise(2, "A TEXT that is taken makes all anew");
        for (String text : new String[] {"", "c", "c3;s1", "c3;s1;s1,1", "c3;b1;b1;b1;b1;b1;b1,15,25,35,46", LONGEST + "c"}) {
            ClockWakers x = Twin.busy();
            Due.due("not taken: " + text, Due.read(x, text) <= -100 ? 1 : 0, 1);
            ClockWakers twin = Twin.busy();
            Due.write(twin, 3, 0, Due.codes(text));
            Twin.untouched(x, twin);
        }
    }

    private static void streetRefusals() {
        ClockWakers x = Twin.busy();
        Due.promise(2, "UNKNOWN");
        Due.all("sheet", -1, x.street(-1, 0, 0, 26), x.street(4, 0, 0, 26), x.street(Due.MIN, 0, 0, 26), x.street(Due.MAX, 0, 0, 26));
        Due.all("ahead of all else", -1, x.street(-1, -1, -1, -1), x.street(4, 3, 0, 26));
        Due.promise(2, "OUTSIDE: lane");
        Due.all("lane", -2, x.street(3, -1, 0, 26), x.street(3, 3, 0, 26), x.street(3, Due.MIN, 0, 26), x.street(3, Due.MAX, 0, 26));
        Due.all("ahead of FAULTS", -2, x.street(2, 3, 0, 0), x.street(2, -1, -1, -1), x.street(3, 3, 0, 27));
        Due.due("fault()", x.fault(), 0);
        Due.promise(2, "FAULTS CAST");
        Due.all("of another lane", Due.CAST, x.street(3, 1, 0, 26), x.street(3, 2, 0, 26), x.street(0, 0, 0, 3), x.street(0, 2, 0, 3), x.street(1, 1, 0, 4));
        Due.all("ahead of SIZE, INDEX", Due.CAST, x.street(3, 1, 0, -1), x.street(3, 2, -1, -1), x.street(3, 1, 27, 0));
        Due.due("fault()", x.fault(), 2);
        Due.promise(2, "nothing is no CAST");
        Due.all("nothing", Due.NULL, x.street(2, 0, 0, 0), x.street(2, 1, 0, 1), x.street(2, 2, 0, 26));
        Due.all("ahead of SIZE, INDEX", Due.NULL, x.street(2, 0, 0, -1), x.street(2, 1, -1, -1), x.street(2, 2, 1, 0));
        Due.due("fault()", x.fault(), 1);
        Due.promise(2, "SIZE: n is below 0");
        Due.all("n", Due.SIZE, x.street(3, 0, 0, -1), x.street(3, 0, 0, Due.MIN));
        Due.all("ahead of INDEX", Due.SIZE, x.street(3, 0, -1, -1), x.street(3, 0, 27, -1), x.street(3, 0, Due.MAX, Due.MIN));
        Due.due("fault()", x.fault(), 4);
        Due.promise(2, "INDEX: not all cells are there");
        Due.all("i, n", Due.INDEX, x.street(3, 0, -1, 26), x.street(3, 0, -1, 27), x.street(3, 0, 0, 27), x.street(3, 0, 1, 26), x.street(3, 0, 26, 1));
        Due.all("far", Due.INDEX, x.street(3, 0, Due.MAX, 1), x.street(3, 0, Due.MIN, 1), x.street(3, 0, 1, Due.MAX), x.street(3, 0, Due.MAX, Due.MAX),
            x.street(3, 0, Due.MIN, Due.MAX));
        Due.all("if none of them is taken, too", Due.INDEX, x.street(3, 0, -1, 0), x.street(3, 0, 27, 0), x.street(3, 0, Due.MIN, 0), x.street(3, 0, Due.MAX, 0));
        Due.due("fault()", x.fault(), 3);
        Due.all("none of them, but there", -100, x.street(3, 0, 0, 0), x.street(3, 0, 26, 0));
        Due.due("fault()", x.fault(), 0);
        Due.promise(2, "they change nothing (but fault(), of a call that names FAULTS)");
        Twin.untouched(x);
        ClockWakers bare = Twin.bare();
        Due.due("of a bare one", bare.street(3, 1, 0, 26), Due.CAST);
        Due.due("refused", bare.street(4, 0, 0, 26), -1);
        Due.due("fault()", bare.fault(), 0);
        Due.due("CAST again", bare.street(3, 1, 0, 26), Due.CAST);
        Due.due("refused", bare.street(3, 3, 0, 26), -2);
        Due.due("fault()", bare.fault(), 0);
        Due.due("CAST again", bare.street(3, 1, 0, 26), Due.CAST);
        Due.due("a first fault", bare.street(3, 0, 0, 25), -125);
        Due.due("fault()", bare.fault(), 0);
        Due.due("CAST again", bare.street(3, 1, 0, 26), Due.CAST);
        Due.due("taken", bare.street(3, 0, 0, 26), 3);
        Due.due("fault()", bare.fault(), 0);
    }

    private static void streetCells() {
        Due.promise(2, "INDEX: not all cells are there");
        for (int lane = 0; lane <= 2; lane++) {
            ClockWakers x = new ClockWakers();
            x.sheet(2, lane, 0);
            Due.due("no cell of none", x.street(2, lane, 0, 0), -100);
            Due.all("of none", Due.INDEX, x.street(2, lane, 0, 1), x.street(2, lane, 1, 0), x.street(2, lane, -1, 0), x.street(2, lane, -1, 1));
            x.lose(2);
            Due.due("of nothing", x.street(2, lane, 0, 0), Due.NULL);
        }
    }

    private static void takenMakesAllAnew() {
        Due.promise(2, "no CLOCK is STUFFED, it is NIGHT 0, no READINGS");
        ClockWakers x = Due.street(LONGEST);
        for (int c = 0; c < 4; c++) {
            x.stuff(c);
            x.drowse(c, 8);
            x.tune(c, 8);
        }
        x.wall(3);
        x.nights(60);
        x.nights(60);
        for (int k = 0; k < 8; k++) {
            x.reading(k % 4, 0, 0, k % 2);
        }
        x.tell(0);
        Due.due("the same text again", x.street(3, 0, 0, LONGEST.length()), 4);
        Twin.untouched(x, traced(LONGEST));
        ClockWakers less = Twin.busy();
        Due.due("one of fewer houses and clocks", Due.read(less, "c3;b9;n8,71"), 1);
        Due.all("what was more is not there", -1, less.ofHouse(2, 0), less.ofClock(1, 0), less.stuff(1), less.carry(0, 2), less.reading(0, 2, 0, 0));
        Due.all("many", 0, less.many(0) - 2, less.many(1) - 1, less.many(2) - 3, less.many(3), less.many(4));
        Due.due("many", less.many(0), 2);
        Due.all("clocks of the text alone", 0, less.ofHouse(0, 3), less.ofHouse(1, 3) - 1, less.nights(1) - 1);
        Due.due("more again", Due.read(less, Due.FIVE), 3);
        Due.all("none is stuffed", 0, less.ofClock(0, 3), less.ofClock(1, 3), less.ofClock(2, 3));
    }

    private static ClockWakers traced(String text) {
        ClockWakers x = Due.street(text);
        x.tell(0);
        return x;
    }

    private static void ofHouse() {
        ClockWakers x = Twin.busy();
        Due.promise(3, "UNKNOWN; OUTSIDE");
        Due.all("h", -1, x.ofHouse(-1, 0), x.ofHouse(5, 0), x.ofHouse(6, 4), x.ofHouse(Due.MIN, 0), x.ofHouse(Due.MAX, 0));
        Due.all("h ahead of what", -1, x.ofHouse(-1, -1), x.ofHouse(5, 5));
        Due.all("what", -2, x.ofHouse(0, -1), x.ofHouse(0, 5), x.ofHouse(4, Due.MIN), x.ofHouse(4, Due.MAX));
        Due.all("first and last", 0, x.ofHouse(0, 0), x.ofHouse(4, 0) - 1, x.ofHouse(0, 4) - 1, x.ofHouse(4, 4) - 5);
        Twin.untouched(x);
        Due.promise(3, "3 CLOCKS that stand there, as a set, 4 CLOCKS by which he WAKES, as a set");
        ClockWakers four = Due.street("c0;s1;s9,91,91,91,81");
        Due.all("none", 0, four.ofHouse(0, 3));
        Due.all("all", 15, four.ofHouse(1, 3), four.ofHouse(0, 4));
        Due.due("all but the last", four.ofHouse(1, 4), 7);
        four.carry(3, 0);
        Due.due("the last alone", four.ofHouse(0, 3), 8);
    }

    private static void needs() {
        Due.promise(3, "a SLEEPER DEPTH; a NERVOUS one 1 less; a BABY half of what a SLEEPER does");
        int[] halves = {0, 1, 1, 2, 2, 3, 3, 4, 4};
        ClockWakers x = Due.street("c0;s1;n1;b1,10");
        for (int depth = 1; depth <= 9; depth++) {
            for (int h = 0; h < 3; h++) {
                x.drowse(h, depth);
            }
            Due.due("SLEEPER " + depth, x.ofHouse(0, 2), depth);
            Due.due("NERVOUS " + depth, x.ofHouse(1, 2), depth - 1);
            Due.due("BABY " + depth, x.ofHouse(2, 2), halves[depth - 1]);
        }
    }

    private static void wakes() {
        Due.promise(3, "if he HEARS no less than he NEEDS, and more than 0");
        // house 0 hears clock 0, which stands in house 1, as 2, 1, 0, -1 through the walls
        String[] sleepers = {"s3", "s2", "s1", "n3", "n2", "n1", "b6", "b4", "b2", "b1"};
        int[] waking = {0, 1, 3, 1, 3, 3, 0, 1, 3, 3};
        for (int k = 0; k < sleepers.length; k++) {
            ClockWakers x = Due.street("c0;" + sleepers[k] + ";s9,21");
            for (int wall = 0; wall <= 3; wall++) {
                x.wall(wall);
                Due.due(sleepers[k] + " hears " + (2 - wall), x.ofHouse(0, 4), waking[k] >> wall & 1);
                Due.due(sleepers[k] + " hears " + (2 - wall), x.ofClock(0, 4), waking[k] >> wall & 1);
            }
        }
    }

    private static void ofClock() {
        ClockWakers x = Twin.busy();
        Due.promise(4, "UNKNOWN; OUTSIDE");
        Due.all("c", -1, x.ofClock(-1, 0), x.ofClock(3, 0), x.ofClock(4, 5), x.ofClock(Due.MIN, 0), x.ofClock(Due.MAX, 0));
        Due.all("c ahead of what", -1, x.ofClock(-1, -1), x.ofClock(3, 6));
        Due.all("what", -2, x.ofClock(0, -1), x.ofClock(0, 6), x.ofClock(2, Due.MIN), x.ofClock(2, Due.MAX));
        Due.all("first and last", 0, x.ofClock(0, 0) - 9, x.ofClock(2, 0) - 7, x.ofClock(0, 5) - 4, x.ofClock(2, 5) - 4);
        Twin.untouched(x);
        Due.promise(4, "LOUD; half of it, if it is STUFFED");
        ClockWakers one = Due.street("c0;s9;s9,10");
        int[] halves = {0, 1, 1, 2, 2, 3, 3, 4, 4};
        for (int loud = 1; loud <= 9; loud++) {
            one.tune(0, loud);
            Due.due("SOUND of " + loud, one.ofClock(0, 1), loud);
            one.stuff(0);
            Due.due("stuffed, of " + loud, one.ofClock(0, 1), halves[loud - 1]);
            Due.due("LOUD stays", one.ofClock(0, 0), loud);
            Due.due("it is", one.ofClock(0, 3), 1);
            one.ease(0);
            Due.due("it is not", one.ofClock(0, 3), 0);
        }
    }

    private static void owner() {
        Due.promise(4, "4 who WAKES by it, as a set, 5 who would OWN it by a STROKE (NONE: nobody WAKES)");
        ClockWakers nobody = Due.street("c0;s9;s9,80");
        Due.due("who wakes", nobody.ofClock(0, 4), 0);
        Due.due("who owns", nobody.ofClock(0, 5), -9);
        ClockWakers all = Due.street("c0;s3;s3;s3;s3;s3;s3,35");
        Due.due("who wakes", all.ofClock(0, 4), 63);
        Due.promise(4, "of several the least HOUSE");
        Due.due("all alike", all.ofClock(0, 5), 0);
        all.drowse(5, 2);
        Due.due("the last by one", all.ofClock(0, 5), 5);
        all.drowse(3, 2);
        Due.due("two alike", all.ofClock(0, 5), 3);
        Due.promise(4, "the one who HEARS the most more than he NEEDS");
        ClockWakers far = Due.street("c1;s1;s9;s9;s9;s9;s8,95");
        Due.due("he hears less, and needs still less", far.ofClock(0, 5), 0);
        Due.due("nothing is changed by asking", far.ofClock(0, 2), 5);
        ClockWakers awake = Due.street("c3;n1;s9;s2,22");
        Due.due("one who hears more than he needs, but nothing, is no one who wakes", awake.ofClock(0, 5), 2);
    }

    private static void drowse() {
        ClockWakers x = Twin.busy();
        Due.promise(5, "UNKNOWN; OUTSIDE");
        Due.all("h", -1, x.drowse(-1, 1), x.drowse(5, 1), x.drowse(Due.MIN, 9), x.drowse(Due.MAX, 9));
        Due.all("h ahead of v", -1, x.drowse(-1, 0), x.drowse(5, 10));
        Due.all("v", -2, x.drowse(0, 0), x.drowse(4, 10), x.drowse(0, -1), x.drowse(0, Due.MIN), x.drowse(4, Due.MAX));
        Twin.untouched(x);
        Due.promise(5, "DEPTH of a HOUSE becomes v (1 .. 9): what it was");
        ClockWakers y = Due.street(Due.FIVE);
        Due.all("first house", 5, y.drowse(0, 1));
        Due.all("last house", 1, y.drowse(4, 9), y.drowse(0, 9), y.ofHouse(1, 0));
        Due.all("both", 9, y.ofHouse(0, 1), y.ofHouse(4, 1), y.drowse(0, 9), y.drowse(4, 1));
        Due.all("the others stay", 0, y.ofHouse(1, 1) - 4, y.ofHouse(2, 1) - 6, y.ofHouse(3, 1) - 9);
    }

    private static void tune() {
        ClockWakers x = Twin.busy();
        Due.promise(6, "UNKNOWN; OUTSIDE");
        Due.all("c", -1, x.tune(-1, 1), x.tune(3, 1), x.tune(Due.MIN, 9), x.tune(Due.MAX, 9));
        Due.all("c ahead of v", -1, x.tune(-1, 0), x.tune(3, 10));
        Due.all("v", -2, x.tune(0, 0), x.tune(2, 10), x.tune(0, -1), x.tune(0, Due.MIN), x.tune(2, Due.MAX));
        Twin.untouched(x);
        Due.promise(6, "LOUD of a CLOCK becomes v (1 .. 9): what it was");
        ClockWakers y = Due.street(Due.FIVE);
        Due.due("first clock", y.tune(0, 1), 9);
        Due.due("last clock", y.tune(2, 9), 7);
        Due.due("first clock", y.tune(0, 9), 1);
        Due.all("both", 9, y.ofClock(0, 0), y.ofClock(2, 0), y.tune(0, 9), y.tune(2, 1));
        Due.due("the other stays", y.ofClock(1, 0), 5);
        y.stuff(2);
        Due.due("a stuffed one, its LOUD", y.tune(2, 8), 1);
        Due.due("its SOUND", y.ofClock(2, 1), 4);
    }

    private static void wall() {
        ClockWakers x = Twin.busy();
        Due.promise(7, "OUTSIDE; STATE: there is no STREET");
        Due.all("v", -2, x.wall(-1), x.wall(4), x.wall(Due.MIN), x.wall(Due.MAX));
        Twin.untouched(x);
        ClockWakers bare = Twin.bare();
        Due.all("no street", -3, bare.wall(0), bare.wall(3));
        Due.all("v ahead of no street", -2, bare.wall(-1), bare.wall(4));
        Due.due("many", bare.many(2), 0);
        Twin.untouched(bare, Twin.bare());
        Due.promise(7, "WALL becomes v (0 .. 3): what it was");
        ClockWakers y = Due.street(Due.FIVE);
        Due.due("least", y.wall(0), 1);
        Due.due("most", y.wall(3), 0);
        Due.due("the same", y.wall(3), 3);
        Due.due("many", y.many(2), 3);
    }

    private static void hears() {
        ClockWakers x = Twin.busy();
        Due.promise(8, "LOST: UNKNOWN: HOUSE, CLOCK");
        Due.all("h, c", Due.LOST, x.hears(-1, 0), x.hears(5, 0), x.hears(0, -1), x.hears(0, 3), x.hears(-1, 3), x.hears(Due.MIN, 0), x.hears(Due.MAX, 0),
            x.hears(0, Due.MIN), x.hears(0, Due.MAX));
        Twin.untouched(x);
        Due.promise(8, "SOUND less WALL for each HOUSE that it is farther on or back (below 0, too)");
        ClockWakers y = Due.street("c3;s1;s1;s1;s1;s1;s1,10,95");
        long[] back = {1, -2, -5, -8, -11, -14};
        long[] on = {-6, -3, 0, 3, 6, 9};
        for (int h = 0; h < 6; h++) {
            Due.due("back", y.hears(h, 0), back[h]);
            Due.due("on", y.hears(h, 1), on[h]);
        }
        y.stuff(0);
        Due.all("stuffed", 0, y.hears(0, 0), y.hears(5, 0) + 15);
        y.wall(0);
        Due.all("no wall", 9, y.hears(0, 1), y.hears(5, 1));
    }
}
