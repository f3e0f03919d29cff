/** Promises 1 to 8: a new object, street, ofHouse, ofClock, drowse, tune, wall, hears. */
final class StreetTest {
    public static void main(String[] args) {
        newObject();
        streetTexts();
        streetFirstFaults();
        streetRefusals();
        streetMakesAnew();
        houses();
        clocks();
        changes();
        hearing();
        Due.end();
    }

    private static void newObject() {
        ClockWakers x = new ClockWakers();
        for (int what = 0; what <= 4; what++) {
            Due.due("many", x.many(what), 0);
        }
        for (int k = 0; k < 4; k++) {
            Due.due("a new sheet has nothing", x.lose(k), 0);
        }
        Due.all("trace, fault", 0, x.trace(), x.fault());
        Due.all("no house, no clock", -1, x.ofHouse(0, 0), x.ofClock(0, 0), x.tell(0), x.call(0), x.stroke(0));
        Due.all("no street", -3, x.wall(0), x.nights(1), x.settle(), x.still(-1), x.walls());
        Due.due("LOST", ClockWakers.LOST, Long.MIN_VALUE);
    }

    private static void streetTexts() {
        ClockWakers x = new ClockWakers();
        Due.due("least", Due.read(x, "c0;s1;s1,10"), 1);
        Due.due("most", Due.read(x, "c3;s1;n2;b3;s4;n5;b9,10,25,34,93"), 4);
        Due.all("most houses", 6, x.many(0));
        Due.all("most clocks", 4, x.many(1));
        Due.all("wall", 3, x.many(2));
        // a text from the middle of a row, of each lane
        for (int lane = 0; lane <= 2; lane++) {
            Due.write(x, lane, lane, 7, 'c', '2', ';', 'b', '9', ';', 'n', '8', ',', '7', '1', 7);
            Due.due("street from the middle", x.street(lane, lane, 1, 11), 1);
            Due.all("its houses", 2, x.many(0), x.many(2), x.ofHouse(0, 0));
            Due.due("a cell too much is at its place in the text", x.street(lane, lane, 1, 12), -111);
        }
    }

    private static void firstFault(String text, int place) {
        ClockWakers x = Due.street("c1;s5;n4,91");
        Due.due("street of " + text, Due.read(x, text), -100 - place);
        Due.due("its fault", x.fault(), 0);
        Due.all("the street stays", 2, x.many(0), x.many(1) + 1, x.ofClock(0, 2) + 1);
    }

    private static void streetFirstFaults() {
        String whole = "c1;s5;n4;b6;s9;n1;s2,92,50,74,15";
        for (int n = 0; n < whole.length(); n++) {
            boolean endsBehindClock = n == 23 || n == 26 || n == 29;
            if (!endsBehindClock) {
                firstFault(whole.substring(0, n), n);
            }
        }
        firstFault("x", 0);
        firstFault(";s5;n4,91", 0);
        firstFault("c;s5;n4,91", 1);
        firstFault("c1;s5;n4;s,91", 10);
        firstFault("c1;s5;n4;5,91", 9);
        firstFault("c1;s5;n4,,91", 9);
        firstFault("c1;s5;n4,9,91", 10);
        firstFault("C1;s5;n4,91", 0);
        firstFault("c4;s5;n4,91", 1);
        firstFault("c/;s5;n4,91", 1);
        firstFault("c1,91", 2);
        firstFault("c1;S5;n4,91", 3);
        firstFault("c1;a5;n4,91", 3);
        firstFault("c1;s0;n4,91", 4);
        firstFault("c1;s:;n4,91", 4);
        firstFault("c1;s5,90", 5);
        firstFault("c1;s5;n4;,91", 9);
        firstFault("c1;s5;n4;b6;s9;n1;s2;s3,91", 20);
        firstFault("c1;s5;n4,01", 9);
        firstFault("c1;s5;n4,92", 10);
        firstFault("c1;s5;n4,9/", 10);
        firstFault("c1;s5;n4;b3,93", 13);
        firstFault("c1;s5;n4,91;s3", 11);
        firstFault("c1;s5;n4,91,91,91,91,91", 20);
        firstFault("c1;s5;n4,91 ", 11);
        // a text ends with its cells, though the row goes on
        ClockWakers longer = new ClockWakers();
        Due.read(longer, whole);
        for (int n = 0; n < 23; n++) {
            Due.due("the first cells of a row", longer.street(3, 0, 0, n), -100 - n);
        }
        Due.due("the first cells of a row", longer.street(3, 0, 0, 24), -124);
        Due.due("the first cells of a row", longer.street(3, 0, 0, 23), 1);
        // codes that are only alike when they are cut
        ClockWakers x = new ClockWakers();
        Due.write(x, 0, 2, 'c' + 256, '1', ';', 's', '5', ';', 'n', '4', ',', '9', '1');
        Due.due("an int is not cut", x.street(0, 2, 0, 11), -100);
        x.put(0, 0, 'c');
        x.put(0, 10, '1' + 65536);
        Due.due("an int is not cut", x.street(0, 2, 0, 11), -110);
    }

    private static void streetRefusals() {
        ClockWakers x = Due.street(Due.FIVE);
        Due.write(x, 0, 1, 1, 2, 3);
        Due.all("sheet", -1, x.street(-1, 9, 0, 1), x.street(4, 0, 0, 1), x.street(Due.MIN, 0, 0, 1), x.street(Due.MAX, 0, 0, 1));
        Due.all("lane", -2, x.street(0, -1, 0, 1), x.street(0, 3, 0, 1), x.street(1, 3, 0, -1));
        Due.all("another lane", Due.CAST, x.street(0, 0, 0, -1), x.street(0, 2, 9, 9));
        Due.due("fault", x.fault(), 2);
        Due.all("nothing", Due.NULL, x.street(1, 0, 0, -1), x.street(2, 2, 9, 9));
        Due.due("fault", x.fault(), 1);
        Due.all("size", Due.SIZE, x.street(0, 1, 0, -1), x.street(0, 1, 9, Due.MIN));
        Due.due("fault", x.fault(), 4);
        Due.all("index", Due.INDEX, x.street(0, 1, -1, 1), x.street(0, 1, 0, 4), x.street(0, 1, 4, 0), x.street(0, 1, -1, 0),
            x.street(0, 1, 3, 1), x.street(0, 1, 2, Due.MAX), x.street(0, 1, Due.MAX, Due.MAX), x.street(0, 1, Due.MIN, Due.MAX));
        Due.due("fault", x.fault(), 3);
        Due.all("no codes", -100, x.street(0, 1, 3, 0), x.street(0, 1, 0, 0));
        Due.due("a text's first fault is no fault", x.fault(), 0);
        x.street(0, 1, 4, 0);
        x.street(4, 0, 0, 0);
        Due.due("a refusal is no fault", x.fault(), 0);
        Due.due("the street stays", x.many(0), 5);
    }

    private static void streetMakesAnew() {
        ClockWakers x = Due.street(Due.FIVE);
        x.stuff(0);
        x.nights(3);
        x.reading(0, 0, 0, 1);
        x.tell(0);
        x.settle();
        Due.due("night", x.many(3), 3);
        Due.due("readings", x.many(4), 1);
        Due.due("a text that is not taken", Due.read(x, "c1;s"), -104);
        Due.all("changes nothing", 1, x.ofClock(0, 3), x.many(4), x.many(3) - 2, x.many(2), x.trace());
        Due.due("a text that is taken", Due.read(x, Due.FIVE), 3);
        Due.all("makes all anew", 0, x.ofClock(0, 3), x.many(3), x.many(4), x.ofClock(0, 2) - 2, x.ofClock(1, 2));
        Due.due("trace is no part of it", x.trace(), 1);
        Due.due("a shorter one", Due.read(x, "c0;s1;s1,10"), 1);
        Due.all("what was more is gone", -1, x.ofHouse(2, 0), x.ofClock(1, 0));
        Due.all("clocks 1 and 2, too", 1, x.ofHouse(0, 3), x.ofHouse(0, 4), x.ofHouse(1, 4), Due.season(x, 4, 0, 3), x.stuff(0));
        Due.due("one clock of two houses", x.ease(0) + x.odds(0, 1), 1);
    }

    private static void houses() {
        ClockWakers x = Due.street("c1;s5;n4;b7;b1;n1;s9,95,25,31");
        int[][] due = {{0, 5, 5, 0}, {1, 4, 3, 4}, {2, 7, 3, 0}, {2, 1, 0, 0}, {1, 1, 0, 0}, {0, 9, 9, 3}};
        for (int h = 0; h < due.length; h++) {
            for (int what = 0; what <= 3; what++) {
                Due.due("ofHouse(" + h + ", " + what + ")", x.ofHouse(h, what), due[h][what]);
            }
        }
        // clock 0 stands at 5 with 9, clock 1 at 5 with 2, clock 2 at 1 with 3
        Due.due("5 needed, 4 heard", x.ofHouse(0, 4), 0);
        Due.due("3 needed, 5 and 3 heard", x.ofHouse(1, 4), 5);
        Due.due("half of 7 needed, 6 and 2 heard", x.ofHouse(2, 4), 1);
        Due.due("nothing needed, 7, 0 and 1 heard", x.ofHouse(3, 4), 5);
        Due.due("nothing needed, 8, 1 and 0 heard", x.ofHouse(4, 4), 3);
        Due.due("9 needed, 9 heard", x.ofHouse(5, 4), 1);
        Due.all("no such house", -1, x.ofHouse(-1, 0), x.ofHouse(6, 0), x.ofHouse(6, 9), x.ofHouse(Due.MIN, 0), x.ofHouse(Due.MAX, 0));
        Due.all("what", -2, x.ofHouse(0, -1), x.ofHouse(0, 5), x.ofHouse(0, Due.MAX), x.ofHouse(5, Due.MIN));
    }

    private static void clocks() {
        ClockWakers x = Due.street(Due.FIVE);
        Due.due("stuff", x.stuff(0), 1);
        // stuffed, clock 0 sounds 4: 3 are heard in houses 1 and 3, 2 in 0 and 4
        int[][] due = {{9, 4, 2, 1, 0b10110, 4}, {5, 5, 0, 0, 0b10111, 1}, {7, 7, 4, 0, 0b10110, 4}};
        for (int c = 0; c < 3; c++) {
            for (int what = 0; what <= 5; what++) {
                Due.due("ofClock(" + c + ", " + what + ")", x.ofClock(c, what), due[c][what]);
            }
        }
        ClockWakers deaf = Due.street("c3;s9;s9;s1,10,80");
        Due.all("nobody wakes", -9, deaf.ofClock(0, 5), deaf.stroke(0));
        Due.due("nobody wakes", deaf.ofClock(0, 4), 0);
        Due.due("who wakes", deaf.ofClock(1, 4), 4);
        ClockWakers even = Due.street("c0;s5;b4;n3;s2,71");
        Due.due("of several the least house", even.ofClock(0, 5), 1);
        Due.all("no such clock", -1, x.ofClock(-1, 0), x.ofClock(3, 0), x.ofClock(3, 9), x.ofClock(Due.MIN, 0), x.ofClock(Due.MAX, 0));
        Due.all("what", -2, x.ofClock(0, -1), x.ofClock(0, 6), x.ofClock(2, Due.MAX), x.ofClock(0, Due.MIN));
    }

    private static void changes() {
        ClockWakers x = Due.street(Due.FIVE);
        Due.due("drowse", x.drowse(0, 9), 5);
        Due.due("drowse", x.drowse(0, 1), 9);
        Due.due("drowse the same", x.drowse(0, 1), 1);
        Due.due("what he needs", x.ofHouse(0, 2), 1);
        Due.all("drowse", -1, x.drowse(-1, 1), x.drowse(5, 1), x.drowse(5, 0));
        Due.all("drowse", -2, x.drowse(0, 0), x.drowse(0, 10), x.drowse(0, Due.MIN), x.drowse(0, Due.MAX));
        Due.due("tune", x.tune(2, 1), 7);
        Due.due("tune", x.tune(2, 9), 1);
        Due.due("loud", x.ofClock(2, 0), 9);
        Due.all("tune", -1, x.tune(-1, 1), x.tune(3, 1), x.tune(3, 0));
        Due.all("tune", -2, x.tune(0, 0), x.tune(0, 10), x.tune(0, Due.MIN));
        Due.due("wall", x.wall(0), 1);
        Due.due("wall", x.wall(3), 0);
        Due.due("wall", x.many(2), 3);
        Due.all("wall", -2, x.wall(-1), x.wall(4), new ClockWakers().wall(4), new ClockWakers().wall(-1));
        Due.due("wall", new ClockWakers().wall(3), -3);
        Due.all("refusals change nothing", 3, x.many(2), x.ofHouse(0, 1) + 2, x.ofClock(2, 0) - 6);
    }

    private static void hearing() {
        ClockWakers x = Due.street("c3;s1;s1;s1;s1;s1;s1,95,10");
        for (int h = 0; h < 6; h++) {
            Due.due("hears", x.hears(h, 0), 9 - 3 * (5 - h));
            Due.due("hears", x.hears(h, 1), 1 - 3 * h);
        }
        x.stuff(0);
        x.stuff(1);
        Due.due("half, cut", x.hears(5, 0), 4);
        Due.due("half, cut", x.hears(0, 1), 0);
        Due.due("below 0", x.hears(0, 0), -11);
        Due.all("LOST", Long.MIN_VALUE, x.hears(-1, 0), x.hears(6, 0), x.hears(0, -1), x.hears(0, 2), new ClockWakers().hears(0, 0));
    }
}
