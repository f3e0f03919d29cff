/** The edges of promises 20 to 26, sentence by sentence. */
final class ReadingsEdgesTest {
    private static final int ALL_DIGITS = 0b1111111110;

    public static void main(String[] args) {
        readingRefusals();
        readingNumbers();
        back();
        guessRefusals();
        noReadings();
        noneHolds();
        depths();
        kinds();
        louds();
        walls();
        allReadings();
        aloneInPlace();
        stuffedAsItIsNow();
        oddsRefusals();
        oddsShares();
        Due.endOf(20, 26);
    }

    private static void readingRefusals() {
        ClockWakers x = Twin.busy();
        Due.promise(20, "UNKNOWN: CLOCK, HOUSE where it stands, HOUSE of who WAKES");
        Due.all("c", -1, x.reading(-1, 0, 0, 0), x.reading(3, 0, 0, 0), x.reading(Due.MIN, 0, 0, 0), x.reading(Due.MAX, 0, 0, 0));
        Due.all("at", -1, x.reading(0, -1, 0, 0), x.reading(0, 5, 0, 0), x.reading(0, Due.MIN, 0, 0), x.reading(0, Due.MAX, 0, 0));
        Due.all("h", -1, x.reading(0, 0, -1, 0), x.reading(0, 0, 5, 0), x.reading(0, 0, Due.MIN, 0), x.reading(0, 0, Due.MAX, 0));
        Due.all("ahead of woke", -1, x.reading(3, 0, 0, 2), x.reading(0, 5, 0, -1), x.reading(0, 0, 5, 2));
        Due.promise(20, "OUTSIDE: woke (0, 1)");
        Due.all("woke", -2, x.reading(0, 0, 0, -1), x.reading(0, 0, 0, 2), x.reading(2, 4, 4, Due.MIN), x.reading(2, 4, 4, Due.MAX));
        Due.due("none of them is noted", x.many(4), 2);
        Twin.untouched(x);
        ClockWakers bare = Twin.bare();
        Due.all("no street", -1, bare.reading(0, 0, 0, 0), bare.reading(0, 0, 0, 2));
        Twin.untouched(bare, Twin.bare());
    }

    private static void readingNumbers() {
        Due.promise(20, "READINGS, 8 at most, numbered by how many there are");
        ClockWakers x = Due.street(Due.FIVE);
        for (int k = 0; k < 8; k++) {
            Due.due("many", x.many(4), k);
            Due.due("reading " + k, x.reading(2, 4, 4, 1), k);
        }
        Due.due("many", x.many(4), 8);
        Due.promise(20, "FULL");
        Due.all("a ninth", -4, x.reading(2, 4, 4, 1), x.reading(0, 2, 0, 0), x.reading(0, 0, 0, 1));
        Due.all("UNKNOWN ahead of it", -1, x.reading(3, 0, 0, 0), x.reading(0, 5, 0, 0), x.reading(0, 0, 5, 0));
        Due.all("OUTSIDE ahead of it", -2, x.reading(0, 0, 0, 2), x.reading(0, 0, 0, -1));
        Due.due("many", x.many(4), 8);
        Due.due("a ninth that would not hold is not noted", x.walls(), 15);
        Due.due("one is taken back", x.back(1), 7);
        Due.due("another one in its place", x.reading(2, 4, 4, 0), 7);
        Due.due("it counts", x.walls(), 0);
        Due.due("a ninth", x.reading(2, 4, 4, 0), -4);
        Due.due("a new text", x.street(3, 0, 0, 26), 3);
        Due.due("the first of its READINGS", x.reading(0, 0, 0, 0), 0);
    }

    private static void back() {
        ClockWakers x = Twin.busy();
        Due.promise(21, "OUTSIDE");
        Due.all("n", -2, x.back(-1), x.back(3), x.back(8), x.back(Due.MIN), x.back(Due.MAX));
        Due.due("none", x.back(0), 2);
        Twin.untouched(x);
        ClockWakers bare = Twin.bare();
        Due.all("no street", 0, bare.back(0), bare.back(1) + 2, bare.back(-1) + 2);
        Twin.untouched(bare, Twin.bare());
        Due.promise(21, "The last n READINGS (0 .. as many as there are) are taken back: how many are left");
        ClockWakers y = Due.street(Due.FIVE);
        for (int k = 0; k < 8; k++) {
            y.reading(0, 2, 0, k < 4 ? 1 : 0);
        }
        Due.due("not all can be", y.depths(0), 0);
        Due.due("one too many", y.back(9), -2);
        Due.due("the last three", y.back(3), 5);
        Due.due("one of the last is left", y.depths(0), 0);
        Due.due("and that one", y.back(1), 4);
        Due.due("the first are left", y.depths(0), 254);
        Due.due("one too many", y.back(5), -2);
        Due.due("all", y.back(4), 0);
        Due.due("none is left", y.depths(0), ALL_DIGITS);
        Due.all("many, back", 0, y.many(4), y.back(0), y.back(1) + 2);
    }

    private static void guessRefusals() {
        ClockWakers x = Twin.busy();
        Due.promise(22, "UNKNOWN");
        Due.all("h", -1, x.depths(-1), x.depths(5), x.depths(6), x.depths(Due.MIN), x.depths(Due.MAX));
        Due.promise(23, "UNKNOWN");
        Due.all("h", -1, x.kinds(-1), x.kinds(5), x.kinds(6), x.kinds(Due.MIN), x.kinds(Due.MAX));
        Due.promise(24, "UNKNOWN");
        Due.all("c", -1, x.louds(-1), x.louds(3), x.louds(4), x.louds(Due.MIN), x.louds(Due.MAX));
        Twin.untouched(x);
        ClockWakers bare = Twin.bare();
        Due.promise(25, "STATE: there is no STREET");
        Due.due("no street", bare.walls(), -3);
        Twin.untouched(bare, Twin.bare());
    }

    private static void noReadings() {
        ClockWakers x = Due.street(Due.FIVE);
        for (int h = 0; h < 5; h++) {
            Due.promise(22, "by which all READINGS are so: DEPTHS of a HOUSE: 1 .. 9");
            Due.due("no readings", x.depths(h), ALL_DIGITS);
            Due.promise(23, "KINDS of a HOUSE: 0 .. 2");
            Due.due("no readings", x.kinds(h), 7);
        }
        Due.promise(24, "LOUDS of a CLOCK: 1 .. 9");
        Due.all("no readings", ALL_DIGITS, x.louds(0), x.louds(1), x.louds(2));
        Due.promise(25, "WALLS: 0 .. 3");
        Due.due("no readings", x.walls(), 15);
    }

    private static void noneHolds() {
        ClockWakers x = Due.street(Due.FIVE);
        x.reading(0, 2, 0, 1);
        x.reading(0, 2, 0, 0);
        for (int h = 0; h < 5; h++) {
            Due.promise(22, "by which all READINGS are so: DEPTHS of a HOUSE: 1 .. 9");
            Due.due("two that can't both be", x.depths(h), 0);
            Due.promise(23, "KINDS of a HOUSE: 0 .. 2");
            Due.due("two that can't both be", x.kinds(h), 0);
        }
        Due.promise(24, "LOUDS of a CLOCK: 1 .. 9");
        Due.all("two that can't both be", 0, x.louds(0), x.louds(1), x.louds(2));
        Due.promise(25, "WALLS: 0 .. 3");
        Due.due("two that can't both be", x.walls(), 0);
    }

    /** Just one reading, of clock 0 and house 0, both standing in one house or a wall apart. */
    private static ClockWakers read(String text, int at, int woke) {
        ClockWakers x = Due.street(text);
        Due.due("reading", x.reading(0, at, 0, woke), 0);
        return x;
    }

    private static void depths() {
        Due.promise(22, "DEPTHS of a HOUSE: 1 .. 9");
        for (int loud = 1; loud <= 9; loud++) {
            int upTo = (2 << loud) - 2;
            Due.due("woke by " + loud, read("c0;s5;s9," + loud + "0", 0, 1).depths(0), upTo);
            Due.due("slept by " + loud, read("c0;s5;s9," + loud + "0", 0, 0).depths(0), ALL_DIGITS - upTo);
        }
        Due.due("a nervous one by 1", read("c0;n5;s9,10", 0, 1).depths(0), 0b110);
        Due.due("a nervous one by 9", read("c0;n5;s9,90", 0, 1).depths(0), ALL_DIGITS);
        Due.due("a baby by 1", read("c0;b5;s9,10", 0, 1).depths(0), 0b1110);
        Due.due("a baby not by 3", read("c0;b5;s9,30", 0, 0).depths(0), 0b1100000000);
        Due.due("by nothing heard nobody wakes", read("c1;n5;s9,10", 1, 1).depths(0), 0);
        Due.due("by nothing heard nobody wakes", read("c1;n5;s9,10", 1, 0).depths(0), ALL_DIGITS);
    }

    private static void kinds() {
        Due.promise(23, "KINDS of a HOUSE: 0 .. 2");
        // of depth 6 a sleeper needs 6, a nervous one 5, a baby 3
        int[] woke = {0, 0, 0b100, 0b100, 0b110, 0b111, 0b111};
        for (int loud = 1; loud <= 7; loud++) {
            Due.due("woke by " + loud, read("c0;s6;s9," + loud + "0", 0, 1).kinds(0), woke[loud - 1]);
            Due.due("slept by " + loud, read("c0;b6;s9," + loud + "0", 0, 0).kinds(0), 7 - woke[loud - 1]);
        }
        Due.due("of depth 1 both others need nothing", read("c0;s1;s9,10", 0, 0).kinds(0), 0);
        Due.due("of depth 1 nobody hears nothing", read("c1;s1;s9,10", 1, 0).kinds(0), 7);
        Due.due("of depth 1 nobody hears nothing", read("c1;b1;s9,10", 1, 1).kinds(0), 0);
    }

    private static void louds() {
        Due.promise(24, "LOUDS of a CLOCK: 1 .. 9");
        for (int depth = 1; depth <= 9; depth++) {
            int below = (1 << depth) - 2;
            Due.due("woke of depth " + depth, read("c0;s" + depth + ";s9,50", 0, 1).louds(0), ALL_DIGITS - below);
            Due.due("slept of depth " + depth, read("c0;s" + depth + ";s9,50", 0, 0).louds(0), below);
        }
        Due.due("none is loud enough", read("c3;s7;s9,50", 1, 1).louds(0), 0);
        Due.due("none is loud enough", read("c3;s7;s9,50", 1, 0).louds(0), ALL_DIGITS);
        Due.due("the loudest alone", read("c3;s6;s9,50", 1, 1).louds(0), 1 << 9);
        Due.due("a wall, and more than 0", read("c3;n1;s9,50", 1, 0).louds(0), 0b1110);
    }

    private static void walls() {
        Due.promise(25, "WALLS: 0 .. 3");
        int[] woke = {15, 15, 15, 15, 15, 7, 3, 1, 0};
        for (int depth = 1; depth <= 9; depth++) {
            Due.due("woke of depth " + depth, read("c1;s" + depth + ";s9,81", 1, 1).walls(), woke[depth - 1]);
            Due.due("slept of depth " + depth, read("c1;s" + depth + ";s9,81", 1, 0).walls(), 15 - woke[depth - 1]);
        }
        Due.due("no wall between", read("c1;s8;s9,80", 0, 1).walls(), 15);
        Due.due("no wall between", read("c1;s8;s9,80", 0, 0).walls(), 0);
        ClockWakers far = Due.street("c0;s1;s9;s9;s9;s9;s9,50");
        far.reading(0, 5, 0, 1);
        Due.due("five walls, and more than 0", far.walls(), 1);
        far.tune(0, 6);
        Due.due("five walls, and 1", far.walls(), 3);
    }

    private static void allReadings() {
        Due.promise(22, "by which all READINGS are so");
        ClockWakers x = Due.street("c0;s5;s9,30,60");
        x.reading(0, 0, 0, 0);
        x.reading(1, 0, 0, 1);
        Due.due("of two clocks", x.depths(0), 0b1110000);
        Due.due("another house", x.depths(1), ALL_DIGITS);
        ClockWakers eight = Due.street("c0;s5;s9,30");
        for (int k = 0; k < 7; k++) {
            eight.reading(0, 0, 0, 0);
        }
        Due.due("of seven", eight.depths(0), 0b1111110000);
        eight.reading(0, 0, 1, 1);
        Due.due("the eighth is not so", eight.depths(0), 0);
        Due.due("by depths of its own house it is", eight.depths(1), 0b1110);
    }

    private static void aloneInPlace() {
        Due.promise(24, "in place of what it is alone");
        ClockWakers x = Due.street("c0;s5;s3,60,60");
        x.reading(0, 0, 0, 1);
        x.reading(1, 0, 1, 0);
        Due.due("clock 1 alone does it", x.louds(1), 0b110);
        Due.due("clock 0 alone does not", x.louds(0), 0);
        Due.promise(22, "in place of what it is alone");
        Due.due("house 1 alone does it", x.depths(1), 0b1110000000);
        Due.due("house 0 alone does not", x.depths(0), 0);
        Due.promise(23, "in place of what it is alone");
        Due.all("no kind does it", 0, x.kinds(0), x.kinds(1));
        Due.promise(25, "in place of what it is alone");
        Due.due("no wall does it", x.walls(), 0);
        Due.all("nothing is changed", 0, x.ofHouse(1, 1) - 3, x.ofHouse(1, 0), x.ofClock(1, 0) - 6, x.many(2));
        x.tune(1, 2);
        Due.due("all else as it is now", x.walls(), 15);
    }

    private static void stuffedAsItIsNow() {
        ClockWakers x = Due.street("c1;s4;s9,90");
        x.reading(0, 0, 0, 1);
        x.reading(0, 1, 0, 1);
        Due.promise(24, "standing in a HOUSE (STUFFED or not as it is now)");
        Due.due("louds", x.louds(0), 0b1111100000);
        x.stuff(0);
        Due.due("louds, stuffed behind it", x.louds(0), 0);
        Due.promise(22, "standing in a HOUSE (STUFFED or not as it is now)");
        Due.due("depths, stuffed behind it", x.depths(0), 0b1110);
        Due.promise(23, "standing in a HOUSE (STUFFED or not as it is now)");
        Due.due("kinds, stuffed behind it", x.kinds(0), 0b110);
        Due.promise(25, "standing in a HOUSE (STUFFED or not as it is now)");
        Due.due("walls, stuffed behind it", x.walls(), 1);
        x.carry(0, 1);
        Due.due("where it stands now is no matter", x.walls(), 1);
        x.ease(0);
        Due.due("eased again", x.walls(), 15);
    }

    private static void oddsRefusals() {
        ClockWakers x = Twin.busy();
        Due.promise(26, "LOST: UNKNOWN; OUTSIDE");
        Due.all("h", Due.LOST, x.odds(-1, 0), x.odds(5, 1), x.odds(6, 0), x.odds(Due.MIN, 0), x.odds(Due.MAX, 1));
        Due.all("which", Due.LOST, x.odds(0, -1), x.odds(0, 2), x.odds(4, Due.MIN), x.odds(4, Due.MAX), x.odds(5, 2));
        Twin.untouched(x);
    }

    private static void share(String text, int h, long upper, long lower) {
        ClockWakers x = Due.street(text);
        Due.due("upper of " + h + " in " + text, x.odds(h, 0), upper);
        Due.due("lower of " + h + " in " + text, x.odds(h, 1), lower);
    }

    private static void oddsShares() {
        Due.promise(26, "Shares are told as upper and lower number (above 0) in least terms");
        share("c0;s9;s9,80", 0, 0, 1);
        share("c0;s9;s9;s9;s9;s9;s9,80,80,80,80", 5, 0, 1);
        share("c0;s9;s9,90", 0, 1, 1);
        share("c0;s1;s1;s1;s1;s1;s1,10,10,10,10", 5, 1, 1);
        Due.promise(26, "if any CLOCK, standing in any HOUSE, strikes, all alike: the share by which he WAKES");
        share("c3;s9;s9;s9;s9;s9;s9,90,80,80,80", 0, 1, 24);
        share("c3;s1;s9;s9;s9;s9;s9,70,70,70,70", 0, 1, 2);
        share("c3;s1;s9;s9;s9;s9;s9,70,70,70,10", 0, 5, 12);
        share("c3;s9;s9;s9;s9;s9;s1,90,90,30,10", 5, 1, 3);
        share("c1;n1;s9,10,20", 0, 3, 4);
        share("c1;b2;s9;s9,11,21,31", 0, 2, 3);
        ClockWakers x = Due.street("c0;s5;s9,90,90");
        x.stuff(0);
        Due.due("one of two is stuffed", x.odds(0, 0) * 10 + x.odds(0, 1), 12);
        x.carry(1, 1);
        Due.due("where they stand is no matter", x.odds(0, 0) * 10 + x.odds(0, 1), 12);
        x.stuff(1);
        Due.due("both are stuffed", x.odds(0, 0) * 10 + x.odds(0, 1), 1);
    }
}
