/** The edges of promises 9 to 14, sentence by sentence. */
final class StrokesEdgesTest {
    private static final int[] ASKS = {0, 1, 2, 3, 4, 10, 11, 12, 13};

    public static void main(String[] args) {
        stroke();
        strokeOwner();
        nights();
        stuff();
        ease();
        carry();
        seasonRefusals();
        seasonFaults();
        seasonWithoutStreet();
        seasonCells();
        secondOfAPair();
        nightsOfAPair();
        firstOfAPair();
        pairByPair();
        firstWrong();
        mostOfASeason();
        asksOfASeason();
        seasonChangesNothing();
        Due.endOf(9, 14);
    }

    private static void stroke() {
        ClockWakers x = Twin.busy();
        Due.promise(9, "UNKNOWN");
        Due.all("c", -1, x.stroke(-1), x.stroke(3), x.stroke(4), x.stroke(Due.MIN), x.stroke(Due.MAX));
        Twin.untouched(x);
        Due.promise(9, "it stays, if nobody WAKES");
        for (int house = 0; house < 6; house++) {
            ClockWakers deaf = Due.street("c0;s9;s9;s9;s9;s9;s9,8" + house);
            Due.all("nobody", -9, deaf.stroke(0), deaf.stroke(0));
            Due.due("it stays", deaf.ofClock(0, 2), house);
        }
        ClockWakers silent = Due.street("c0;n1;b1,10");
        silent.stuff(0);
        Due.due("nothing is needed, but nothing is heard", silent.stroke(0), -9);
        silent.ease(0);
        Due.due("eased, it is heard", silent.stroke(0), 0);
    }

    private static void strokeOwner() {
        Due.promise(9, "of several the least HOUSE");
        ClockWakers even = Due.street("c0;s9;s4;s4;s4;s4;s4,45");
        Due.due("of five alike", even.stroke(0), 1);
        Due.due("where it stood is no matter", even.stroke(0), 1);
        Due.promise(9, "it stands with him from then on");
        ClockWakers x = Due.street("c0;s9;n1;s9;s9;s9;n1,90,10,90,90");
        for (int c = 0; c < 4; c++) {
            Due.due("stroke of " + c, x.stroke(c), 1);
            Due.due("where it stands", x.ofClock(c, 2), 1);
            Due.due("the others not yet", x.ofHouse(1, 3), (2 << c) - 1);
        }
        Due.due("a STROKE is no NIGHT", x.many(3), 0);
    }

    private static void nights() {
        ClockWakers x = Twin.busy();
        Due.promise(10, "OUTSIDE; STATE: there is no STREET");
        Due.all("n", -2, x.nights(0), x.nights(61), x.nights(-1), x.nights(Due.MIN), x.nights(Due.MAX));
        Twin.untouched(x);
        ClockWakers bare = Twin.bare();
        Due.all("no street", -3, bare.nights(1), bare.nights(60));
        Due.all("n ahead of no street", -2, bare.nights(0), bare.nights(61));
        Twin.untouched(bare, Twin.bare());
        Due.promise(10, "n NIGHTS (1 .. 60): how many CLOCKS stand elsewhere than they did");
        ClockWakers y = Due.street("c0;n1;s9,91,80,71,11");
        Due.due("one night", y.nights(1), 3);
        Due.due("which it is", y.many(3), 1);
        Due.due("sixty", y.nights(60), 0);
        Due.due("which it is", y.many(3), 61);
        y.carry(2, 1);
        Due.due("one of four", y.nights(60), 1);
        Due.due("which it is", y.many(3), 121);
        ClockWakers all = Due.street("c0;n1;s9,91,81,71,11");
        Due.due("all of four", all.nights(60), 4);
        // behind the first night it stands in house 1, behind the second in house 0
        ClockWakers steps = Due.street("c1;n1;s1;s9;s9,33");
        Due.due("once of one that goes twice", steps.nights(60), 1);
        Due.due("where it stands", steps.ofClock(0, 2), 0);
        steps.carry(0, 3);
        Due.due("the first night of two", steps.nights(1), 1);
        Due.due("where it stands", steps.ofClock(0, 2), 1);
        Due.due("the second", steps.nights(1), 1);
        Due.due("where it stands", steps.ofClock(0, 2), 0);
        Due.due("the third", steps.nights(1), 0);
    }

    private static void stuff() {
        ClockWakers x = Twin.busy();
        Due.promise(11, "UNKNOWN; STATE: it is");
        Due.all("c", -1, x.stuff(-1), x.stuff(3), x.stuff(4), x.stuff(Due.MIN), x.stuff(Due.MAX));
        Due.all("it is", -3, x.stuff(1), x.stuff(1));
        Twin.untouched(x);
        Due.promise(11, "A CLOCK is STUFFED: how many are");
        ClockWakers y = Due.street("c0;s9;s9,91,81,71,61");
        for (int c = 3; c >= 0; c--) {
            Due.due("stuff " + c, y.stuff(c), 4 - c);
            Due.due("it is", y.ofClock(c, 3), 1);
            Due.due("again", y.stuff(c), -3);
        }
    }

    private static void ease() {
        ClockWakers x = Twin.busy();
        Due.promise(12, "UNKNOWN; STATE: it is not STUFFED");
        Due.all("c", -1, x.ease(-1), x.ease(3), x.ease(4), x.ease(Due.MIN), x.ease(Due.MAX));
        Due.all("it is not", -3, x.ease(0), x.ease(2));
        Twin.untouched(x);
        Due.promise(12, "A CLOCK is EASED: how many are STUFFED yet");
        ClockWakers y = Due.street("c0;s9;s9,91,81,71,61");
        for (int c = 0; c < 4; c++) {
            y.stuff(c);
        }
        for (int c = 0; c < 4; c++) {
            Due.due("ease " + c, y.ease(c), 3 - c);
            Due.due("it is not", y.ofClock(c, 3), 0);
            Due.due("again", y.ease(c), -3);
        }
    }

    private static void carry() {
        ClockWakers x = Twin.busy();
        Due.promise(13, "UNKNOWN: CLOCK, HOUSE");
        Due.all("c", -1, x.carry(-1, 0), x.carry(3, 0), x.carry(Due.MIN, 4), x.carry(Due.MAX, 4));
        Due.all("h", -1, x.carry(0, -1), x.carry(0, 5), x.carry(2, Due.MIN), x.carry(2, Due.MAX), x.carry(3, 5));
        Twin.untouched(x);
        Due.promise(13, "A CLOCK is carried to a HOUSE: where it stood");
        ClockWakers y = Due.street(Due.FIVE);
        Due.due("first clock, last house", y.carry(0, 4), 2);
        Due.due("last clock, first house", y.carry(2, 0), 4);
        Due.due("to where it stands", y.carry(2, 0), 0);
        Due.all("where they stand", 0, y.ofClock(0, 2) - 4, y.ofClock(1, 2), y.ofClock(2, 2), y.ofHouse(0, 3) - 6, y.ofHouse(4, 3) - 1);
    }

    private static void seasonRefusals() {
        ClockWakers x = Twin.busy();
        Due.promise(14, "UNKNOWN: SHEET");
        Due.all("sheet", -1, x.season(-1, 2, 0, 2, 0), x.season(4, 2, 0, 2, 0), x.season(Due.MIN, 2, 0, 2, 0), x.season(Due.MAX, 2, 0, 2, 0));
        Due.all("ahead of all else", -1, x.season(-1, 3, -1, 21, 5), x.season(4, 2, 0, -1, 0), x.season(4, 2, 0, 2, 14));
        Due.promise(14, "OUTSIDE: lane, n (0 .. 20), what (0 .. 4, 10 .. 13)");
        Due.all("lane", -2, x.season(1, -1, 0, 2, 0), x.season(1, 3, 0, 2, 0), x.season(1, Due.MIN, 0, 2, 0), x.season(1, Due.MAX, 0, 2, 0));
        Due.all("n", -2, x.season(1, 2, 0, -1, 0), x.season(1, 2, 0, 21, 0), x.season(1, 2, 0, Due.MIN, 0), x.season(1, 2, 0, Due.MAX, 0),
            x.season(1, 2, 0, Due.MIN + 1, 0), x.season(1, 2, 0, 1 << 30, 0));
        Due.all("what", -2, x.season(1, 2, 0, 2, -1), x.season(1, 2, 0, 2, 5), x.season(1, 2, 0, 2, 9), x.season(1, 2, 0, 2, 14),
            x.season(1, 2, 0, 2, Due.MIN), x.season(1, 2, 0, 2, Due.MAX));
        Due.all("ahead of FAULTS", -2, x.season(2, 3, 0, 0, 0), x.season(2, 0, 0, 21, 0), x.season(2, 0, 0, -1, 0), x.season(2, 0, 0, 0, 5),
            x.season(0, 2, 0, 1, 9), x.season(1, 2, 9, 1, 14), x.season(0, 2, 0, 21, 0));
        Due.due("fault()", x.fault(), 0);
        Due.promise(14, "they change nothing (but fault(), of a call that names FAULTS)");
        Due.due("a fault", x.season(2, 0, 0, 0, 0), Due.NULL);
        Due.due("a refusal", x.season(1, 2, 0, 2, 5), -2);
        Due.due("fault()", x.fault(), 0);
        Due.due("a fault", x.season(2, 0, 0, 0, 0), Due.NULL);
        Due.due("a refusal", x.season(4, 2, 0, 2, 0), -1);
        Due.due("fault()", x.fault(), 0);
        Due.due("a fault", x.season(2, 0, 0, 0, 0), Due.NULL);
        Due.due("none", x.season(1, 2, 0, 2, 0), 6);
        Due.due("fault()", x.fault(), 0);
        Twin.untouched(x);
    }

    private static void seasonFaults() {
        ClockWakers x = Twin.busy();
        Due.promise(14, "FAULTS CAST, NULL, INDEX");
        Due.all("of another lane", Due.CAST, x.season(1, 0, 0, 2, 0), x.season(1, 1, 0, 0, 1), x.season(0, 0, 0, 1, 2), x.season(0, 2, 0, 1, 13), x.season(3, 1, 0, 1, 10));
        Due.all("ahead of INDEX", Due.CAST, x.season(1, 0, -1, 2, 0), x.season(1, 1, 5, 0, 1), x.season(0, 2, 0, 20, 0));
        Due.due("fault()", x.fault(), 2);
        Due.all("nothing", Due.NULL, x.season(2, 0, 0, 0, 0), x.season(2, 1, 0, 1, 1), x.season(2, 2, 0, 20, 13));
        Due.all("ahead of INDEX", Due.NULL, x.season(2, 0, -1, 0, 0), x.season(2, 1, 1, 0, 0));
        Due.due("fault()", x.fault(), 1);
        Due.all("not all are there", Due.INDEX, x.season(1, 2, 0, 3, 0), x.season(1, 2, 1, 2, 0), x.season(1, 2, 3, 1, 0), x.season(1, 2, 4, 1, 0),
            x.season(1, 2, -1, 1, 0), x.season(1, 2, -1, 2, 0), x.season(0, 1, 0, 2, 0));
        Due.all("far", Due.INDEX, x.season(1, 2, Due.MAX, 1, 0), x.season(1, 2, Due.MIN, 1, 0), x.season(1, 2, Due.MAX - 1, 20, 0), x.season(1, 2, Due.MAX - 39, 20, 0));
        Due.all("if none of them is taken, too", Due.INDEX, x.season(1, 2, -1, 0, 0), x.season(1, 2, 5, 0, 0), x.season(1, 2, Due.MIN, 0, 0), x.season(1, 2, Due.MAX, 0, 0));
        Due.due("fault()", x.fault(), 3);
        Due.all("none of them, but there", 2, x.season(1, 2, 0, 0, 0), x.season(1, 2, 4, 0, 0));
        Due.due("fault()", x.fault(), 0);
        Twin.untouched(x);
    }

    private static void seasonWithoutStreet() {
        Due.promise(14, "STATE: there is no STREET");
        ClockWakers x = Twin.bare();
        for (int what : ASKS) {
            Due.due("no street, what " + what, x.season(1, 2, 0, 2, what), -3);
            Due.due("no street, no acts", x.season(1, 2, 4, 0, what), -3);
        }
        Due.due("ahead of the pairs", x.season(0, 1, 0, 1, 0), -3);
        Due.due("a fault", x.season(1, 2, 5, 0, 0), Due.INDEX);
        Due.due("fault()", x.fault(), 3);
        Due.due("no street", x.season(1, 2, 0, 2, 0), -3);
        Due.due("fault()", x.fault(), 0);
        Due.due("CAST is ahead", x.season(1, 1, 0, 2, 0), Due.CAST);
        Due.due("NULL is ahead", x.season(2, 1, 0, 2, 0), Due.NULL);
        Due.due("OUTSIDE is ahead", x.season(1, 2, 0, 21, 0), -2);
        Due.due("UNKNOWN is ahead", x.season(4, 2, 0, 2, 0), -1);
        Twin.untouched(x, Twin.bare());
    }

    private static void seasonCells() {
        Due.promise(14, "A SEASON of n pairs, that are cells of a SHEET from i on (2 n)");
        for (int k = 0; k <= 3; k++) {
            for (int lane = 0; lane <= 2; lane++) {
                ClockWakers x = Due.street(Due.FIVE);
                Due.write(x, k, lane, 99, 0, 1, 2, 1, 99, 99);
                Due.due("two, within the row", x.season(k, lane, 1, 2, 0), 5);
                Due.due("one of them", x.season(k, lane, 1, 1, 0), 1);
                Due.due("the other", x.season(k, lane, 3, 1, 0), 4);
                Due.due("none of them", x.season(k, lane, 7, 0, 0), 0);
                Due.due("one too many", x.season(k, lane, 1, 3, 0), -2);
                Due.due("not there", x.season(k, lane, 1, 4, 0), Due.INDEX);
            }
        }
        ClockWakers last = Due.street(Due.FIVE);
        last.sheet(0, 0, 60);
        last.put(0, 59, 1);
        Due.due("the last two cells of sixty", last.season(0, 0, 58, 1, 0), 1);
        Due.due("and one on", last.season(0, 0, 59, 1, 0), Due.INDEX);
        Due.due("all sixty", last.season(0, 0, 20, 20, 0), 1);
        Due.due("and one on", last.season(0, 0, 21, 20, 0), Due.INDEX);
        last.sheet(0, 0, 0);
        Due.due("a row of none", last.season(0, 0, 0, 0, 0), 0);
        Due.all("not there", Due.INDEX, last.season(0, 0, 0, 1, 0), last.season(0, 0, 1, 0, 0));
    }

    private static void secondOfAPair() {
        Due.promise(14, "pair by pair OUTSIDE: the second is none of 0 .. 3, 10 .. 13");
        ClockWakers x = Due.street("c0;s9;s9,10,10,10,10");
        for (int act = -2; act <= 15; act++) {
            boolean is = act >= 0 && act <= 3 || act >= 10 && act <= 13;
            int due = !is ? -2 : act == 2 ? 0 : -9;
            Due.due("act " + act, Due.season(x, 1, 0, act), due);
            Due.due("fault()", x.fault(), 0);
        }
        Due.all("far", -2, Due.season(x, 1, 0, Due.MIN), Due.season(x, 1, 0, Due.MAX), Due.season(x, 1, 0, 256), Due.season(x, 1, 0, 65546));
        Due.all("ahead of UNKNOWN", -2, Due.season(x, 1, 9, 4), Due.season(x, 1, -1, 14), Due.season(x, 1, Due.MIN, -1));
    }

    private static void nightsOfAPair() {
        Due.promise(14, "it is 3 and the first is not 0 .. 9");
        ClockWakers x = Due.street("c0;s9;s9,10,10");
        for (int n = -2; n <= 12; n++) {
            Due.due(n + " nights", Due.season(x, 3, n, 3), n < 0 || n > 9 ? -2 : 2 * n);
        }
        Due.all("far", -2, Due.season(x, 1, Due.MIN, 3), Due.season(x, 1, Due.MAX, 3), Due.season(x, 1, 60, 3));
        Due.due("what is no CLOCK, no HOUSE may be so many NIGHTS", Due.season(x, 1, 9, 3), -9);
    }

    private static void firstOfAPair() {
        Due.promise(14, "UNKNOWN: the first is no CLOCK (of 0 .. 2)");
        for (int act = 0; act <= 2; act++) {
            ClockWakers x = Due.street(Due.FIVE);
            Due.all("act " + act, -1, Due.season(x, 1, -1, act), Due.season(x, 1, 3, act), Due.season(x, 1, 4, act), Due.season(x, 1, Due.MIN, act),
                Due.season(x, 1, Due.MAX, act));
            Due.due("fault()", x.fault(), 0);
            Due.all("the first and the last", act == 2 ? 0 : -9, Due.season(x, 1, 0, act), Due.season(x, 1, 2, act));
        }
        Due.promise(14, "no HOUSE (of 10 .. 13)");
        for (int act = 10; act <= 13; act++) {
            ClockWakers x = Due.street(Due.FIVE);
            Due.all("act " + act, -1, Due.season(x, 1, -1, act), Due.season(x, 1, 5, act), Due.season(x, 1, 6, act), Due.season(x, 1, Due.MIN, act),
                Due.season(x, 1, Due.MAX, act));
            Due.due("fault()", x.fault(), 0);
            Due.all("the first and the last", act == 13 ? 0 : -9, Due.season(x, 1, 0, act), Due.season(x, 1, 4, act));
        }
    }

    private static void pairByPair() {
        Due.promise(14, "pair by pair OUTSIDE");
        ClockWakers x = Due.street(Due.FIVE);
        Due.due("UNKNOWN of the first, OUTSIDE of the second", Due.season(x, 0, 3, 0, 0, 4), -1);
        Due.due("OUTSIDE of the first, UNKNOWN of the second", Due.season(x, 0, 0, 4, 3, 0), -2);
        for (int what : ASKS) {
            Due.due("the last of three, what " + what, Due.season(x, what, 0, 0, 0, 1, 5, 12), -1);
            Due.due("the last of three, what " + what, Due.season(x, what, 0, 0, 0, 1, 10, 3), -2);
        }
        Due.due("behind one that can't be", Due.season(x, 1, 0, 2, 3, 0), -1);
        ClockWakers most = Due.street(Due.FIVE);
        int[] pairs = new int[40];
        pairs[39] = 4;
        Due.due("the last of twenty", Due.season(most, 1, pairs), -2);
        Due.due("the last is not taken", most.season(0, 2, 0, 19, 1), -9);
    }

    private static void firstWrong() {
        Due.promise(14, "FIRST WRONG: the first act that can't be (there is no such CLOCK to be carried, too)");
        for (int clocks = 1; clocks <= 4; clocks++) {
            ClockWakers x = Due.street("c0;s9;s9" + ",10".repeat(clocks));
            for (int c = 0; c < 4; c++) {
                Due.due("carried, of " + clocks, Due.season(x, 1, 1, 10 + c), c < clocks ? -9 : 0);
                Due.due("carried, of " + clocks, Due.season(x, 10 + c, 1, 10 + c), c < clocks ? 1 : -100);
            }
        }
        Due.promise(14, "it is STUFFED (it is not yet)");
        ClockWakers x = Due.street(Due.FIVE);
        Due.due("twice", Due.season(x, 1, 2, 1, 2, 1), 1);
        Due.due("another one", Due.season(x, 1, 2, 1, 1, 1), -9);
        Due.due("with an easing between", Due.season(x, 1, 2, 1, 2, 2, 2, 1), -9);
        Due.promise(14, "it is EASED (it is STUFFED)");
        Due.due("at once", Due.season(x, 1, 2, 2), 0);
        Due.due("twice", Due.season(x, 1, 2, 1, 2, 2, 2, 2), 2);
        Due.due("another one", Due.season(x, 1, 2, 1, 1, 2), 1);
        Due.promise(14, "from how all is now");
        x.stuff(2);
        Due.due("it is by now", Due.season(x, 1, 2, 1), 0);
        Due.due("it is by now", Due.season(x, 1, 2, 2), -9);
        Due.promise(14, "of one with a FIRST WRONG: -100 less that (but what 1)");
        ClockWakers y = Due.street(Due.FIVE);
        int[] last = new int[40];
        last[38] = 4;
        last[39] = 13;
        Due.due("the first of several", Due.season(y, 1, 0, 0, 0, 2, 0, 13, 0, 2), 1);
        for (int what : ASKS) {
            Due.due("the first act, what " + what, Due.season(y, what, 0, 13, 0, 0), what == 1 ? 0 : -100);
        }
        Due.write(y, 1, 2, last);
        for (int what : ASKS) {
            Due.due("the twentieth act, what " + what, y.season(1, 2, 0, 20, what), what == 1 ? 19 : -119);
        }
        Due.due("fault()", y.fault(), 0);
    }

    private static void mostOfASeason() {
        Due.promise(14, "n (0 .. 20)");
        ClockWakers x = Due.street("c3;s9;s9,10,10,11,11");
        int[] pairs = new int[40];
        for (int k = 0; k < 20; k++) {
            pairs[2 * k] = 9;
            pairs[2 * k + 1] = 3;
        }
        Due.write(x, 0, 0, pairs);
        Due.due("twenty acts of nine nights of four clocks nobody hears", x.season(0, 0, 0, 20, 3), 720);
        Due.due("none of them is carried", x.season(0, 0, 0, 20, 2), 0);
        Due.due("a row of forty cells has no more", x.season(0, 0, 1, 20, 3), Due.INDEX);
        Due.due("one more is too many", x.season(0, 0, 0, 21, 3), -2);
        int[] none = {0, -9, 0, 0, 3, 0, 0, 1, 1};
        for (int k = 0; k < ASKS.length; k++) {
            Due.due("no acts, what " + ASKS[k], x.season(0, 0, 40, 0, ASKS[k]), none[k]);
        }
    }

    private static void asksOfASeason() {
        Due.promise(14, "how often a STROKE carried a CLOCK elsewhere in it (2), how many STROKES nobody woke by (3)");
        // a stroke brings clock 0 to house 0; clock 1 is heard by nobody, stuffed or not
        ClockWakers x = Due.street("c0;s1;s9,51,10");
        x.drowse(0, 2);
        Due.due("carried by a stroke", Due.season(x, 2, 0, 0), 1);
        Due.due("it stays by the second", Due.season(x, 2, 0, 0, 0, 0), 1);
        Due.due("carried back by hand", Due.season(x, 2, 0, 0, 1, 10, 0, 0), 2);
        Due.due("by hand alone", Due.season(x, 2, 0, 10, 1, 10), 0);
        Due.due("by nights", Due.season(x, 2, 9, 3), 1);
        Due.due("nobody woke", Due.season(x, 3, 9, 3, 1, 0), 10);
        Due.due("it stays where it is, and one woke", Due.season(x, 3, 0, 0, 0, 0), 0);
        x.stroke(1);
        Due.due("what was before is not in it", Due.season(x, 3, 1, 0), 1);
        Due.promise(14, "the HOUSE where CLOCK c stands then (10 and c; NONE: there is no such CLOCK)");
        Due.due("where it is", Due.season(x, 10, 0, 3), 1);
        Due.due("where it is then", Due.season(x, 10, 0, 0), 0);
        Due.due("clock 1", Due.season(x, 11, 1, 11), 1);
        Due.all("no such clock", -9, Due.season(x, 12, 0, 0), Due.season(x, 13, 0, 0));
        Due.promise(14, "HOUSES in which a CLOCK stands then, as a set (4)");
        Due.due("both in one", Due.season(x, 4, 0, 0), 1);
        Due.due("each in one", Due.season(x, 4, 0, 3), 3);
        ClockWakers six = Due.street("c0;s9;s9;s9;s9;s9;s9,10,10,10,10");
        Due.due("up to the last house", Due.season(six, 4, 2, 10, 3, 11, 4, 12, 5, 13), 60);
        Due.promise(14, "which CLOCKS are STUFFED then, as a set (what 0)");
        Due.due("all", Due.season(six, 0, 0, 1, 1, 1, 2, 1, 3, 1), 15);
        Due.due("the last", Due.season(six, 0, 0, 1, 3, 1, 0, 2), 8);
        Due.due("none", Due.season(six, 0, 3, 1, 3, 2), 0);
    }

    private static void seasonChangesNothing() {
        Due.promise(14, "nothing is changed");
        for (int what : ASKS) {
            ClockWakers x = Twin.busy();
            int[] acts = {0, 0, 0, 1, 1, 2, 9, 3, 4, 10, 3, 12};
            int answer = Due.season(x, what, acts);
            Due.due("a season, what " + what, answer >= 0 || answer == -9 ? 1 : 0, 1);
            ClockWakers twin = Twin.busy();
            Due.write(twin, 0, 2, acts);
            Twin.untouched(x, twin);
            ClockWakers wrong = Twin.busy();
            int[] stopped = {0, 0, 0, 1, 1, 2, 9, 3, 4, 10, 1, 2, 3, 10};
            Due.due("one with a first wrong", Due.season(wrong, what, stopped), what == 1 ? 5 : -105);
            ClockWakers other = Twin.busy();
            Due.write(other, 0, 2, stopped);
            Twin.untouched(wrong, other);
        }
    }
}
