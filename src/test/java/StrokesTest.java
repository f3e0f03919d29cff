/** Promises 9 to 14: stroke, nights, stuff, ease, carry, season. */
final class StrokesTest {
    public static void main(String[] args) {
        strokes();
        nights();
        fourClocks();
        stuffing();
        carrying();
        seasonsPlayed();
        seasonsWrong();
        seasonRefusals();
        seasonsChangeNothing();
        Due.end();
    }

    private static void strokes() {
        ClockWakers x = Due.street(Due.FIVE);
        Due.due("stroke", x.stroke(0), 4);
        Due.due("it stands there", x.ofClock(0, 2), 4);
        Due.due("stroke", x.stroke(1), 1);
        Due.due("it stands there", x.ofHouse(1, 3), 2);
        Due.due("a stroke is no night", x.many(3), 0);
        ClockWakers deaf = Due.street("c3;s9;s9;s9,31");
        Due.due("nobody", deaf.stroke(0), -9);
        Due.due("it stays", deaf.ofClock(0, 2), 1);
        ClockWakers even = Due.street("c0;s4;s4;s9,52");
        Due.due("the least house of several", even.stroke(0), 0);
        ClockWakers silent = Due.street("c1;b1;s9,11");
        Due.due("nothing needed, but nothing heard", silent.stroke(0), -9);
        Due.all("no such clock", -1, x.stroke(-1), x.stroke(3), x.stroke(Due.MIN), x.stroke(Due.MAX), new ClockWakers().stroke(0));
    }

    private static void nights() {
        ClockWakers x = Due.street(Due.FIVE);
        Due.due("clocks 0 and 1 go", x.nights(1), 2);
        Due.due("night", x.many(3), 1);
        Due.due("none goes any more", x.nights(60), 0);
        Due.due("night", x.many(3), 61);
        ClockWakers twice = Due.street("c1;n1;s1;s9;s9,33");
        Due.due("a clock that goes twice stands elsewhere but once", twice.nights(2), 1);
        Due.due("it went on", twice.ofClock(0, 2), 0);
        Due.all("how many nights", -2, x.nights(0), x.nights(61), x.nights(-1), x.nights(Due.MIN), x.nights(Due.MAX), new ClockWakers().nights(0));
        Due.due("no street", new ClockWakers().nights(60), -3);
        Due.due("refusals change nothing", x.many(3), 61);
    }

    private static void fourClocks() {
        ClockWakers x = Due.street("c0;s1;s9;n1,51,61,71,80");
        Due.due("all three but not the last one's house", x.ofHouse(1, 3), 7);
        Due.due("all wake him", x.ofHouse(2, 4), 15);
        Due.due("all go to house 2", x.nights(1), 4);
        Due.due("all stand there", x.ofHouse(2, 3), 15);
        for (int c = 0; c < 4; c++) {
            Due.due("stuff", x.stuff(c), c + 1);
        }
        Due.due("all are stuffed", Due.season(x, 0, 0, 3), 15);
        Due.due("all stand there", Due.season(x, 4, 0, 3), 4);
        Due.due("clock 3", Due.season(x, 13, 1, 13), 1);
        Due.due("odds", x.odds(2, 0), 1);
        Due.due("one can't be hushed", x.hush(2), -9);
        Due.due("one is", x.hush(1), 0);
    }

    private static void stuffing() {
        ClockWakers x = Due.street(Due.FIVE);
        Due.due("stuff", x.stuff(2), 1);
        Due.due("stuff", x.stuff(0), 2);
        Due.due("stuff again", x.stuff(0), -3);
        Due.all("it is", 1, x.ofClock(0, 3), x.ofClock(2, 3), 1 - x.ofClock(1, 3));
        Due.due("its sound", x.ofClock(2, 1), 3);
        Due.due("ease what is not stuffed", x.ease(1), -3);
        Due.due("ease", x.ease(2), 1);
        Due.due("its sound", x.ofClock(2, 1), 7);
        Due.due("ease", x.ease(0), 0);
        Due.due("ease again", x.ease(0), -3);
        Due.all("no such clock", -1, x.stuff(-1), x.stuff(3), x.ease(-1), x.ease(3), x.stuff(Due.MAX), x.ease(Due.MIN));
    }

    private static void carrying() {
        ClockWakers x = Due.street(Due.FIVE);
        Due.due("carry", x.carry(0, 3), 2);
        Due.due("carry", x.carry(0, 0), 3);
        Due.due("carry to where it is", x.carry(0, 0), 0);
        Due.due("it stands there", x.ofHouse(0, 3), 3);
        Due.all("no such clock, house", -1, x.carry(-1, 0), x.carry(3, 0), x.carry(0, -1), x.carry(0, 5), x.carry(Due.MAX, Due.MIN));
        Due.due("refusals change nothing", x.ofClock(0, 2), 0);
    }

    private static void seasonsPlayed() {
        ClockWakers x = Due.street(Due.FIVE);
        x.stuff(2);
        // clock 1 stuffed, nine nights, clock 1 eased, clock 2 carried to house 0, its stroke, clock 0 to house 3
        int[] acts = {1, 1, 9, 3, 1, 2, 0, 12, 2, 0, 3, 10};
        Due.due("which are stuffed", Due.season(x, 0, acts), 4);
        Due.due("first wrong", Due.season(x, 1, acts), -9);
        Due.due("houses with a clock", Due.season(x, 4, acts), 1 << x.ofClock(1, 2) | 1 << 3 | 1 << Due.season(x, 12, acts));
        Due.due("clock 0", Due.season(x, 10, acts), 3);
        Due.due("clock 1", Due.season(x, 11, acts), 0);
        Due.due("no clock 3", Due.season(x, 13, acts), -9);
        Due.due("carried by strokes", Due.season(Due.street(Due.FIVE), 2, acts), 2);
        Due.due("strokes nobody woke by", Due.season(Due.street(Due.FIVE), 3, acts), 9);
        ClockWakers deaf = Due.street("c3;s9;s9,10,10,10,10");
        deaf.stroke(0);
        for (int k = 0; k < 2; k++) {
            Due.due("in this season alone", Due.season(deaf, 3, 2, 3), 8);
        }
        Due.due("no nights", Due.season(x, 2, 0, 3), 0);
        Due.due("a stroke there and a carrying back", Due.season(x, 2, 0, 0, 2, 10, 0, 0), 2);
        Due.due("carrying is no stroke", Due.season(x, 2, 0, 10, 1, 10), 0);
        int[] most = new int[40];
        Due.due("twenty acts", Due.season(x, 1, most), -9);
        // a season from the middle of a row, and one of nothing at its end
        for (int lane = 0; lane <= 2; lane++) {
            Due.write(x, 1, lane, 99, 0, 0, 1, 1, 77);
            Due.due("from the middle", x.season(1, lane, 1, 2, 0), 6);
            Due.due("nothing at the end", x.season(1, lane, 6, 0, 0), 4);
        }
    }

    private static void seasonsWrong() {
        ClockWakers x = Due.street(Due.FIVE);
        int[] asks = {0, 2, 3, 4, 10, 13};
        for (int what : asks) {
            Due.due("stuffed twice", Due.season(x, what, 1, 1, 1, 1), -101);
            Due.due("eased first", Due.season(x, what, 1, 2), -100);
            Due.due("no clock 3 to be carried", Due.season(x, what, 0, 0, 0, 0, 0, 13), -102);
        }
        Due.due("stuffed twice", Due.season(x, 1, 1, 1, 1, 1), 1);
        Due.due("eased twice", Due.season(x, 1, 1, 1, 1, 2, 1, 2), 2);
        Due.due("the first of two", Due.season(x, 1, 0, 13, 1, 2), 0);
        x.stuff(0);
        Due.due("it is stuffed now", Due.season(x, 1, 0, 1), 0);
        Due.due("it is stuffed now", Due.season(x, 1, 0, 2), -9);
    }

    private static void seasonRefusals() {
        ClockWakers x = Due.street(Due.FIVE);
        Due.write(x, 0, 1, 0, 0, 1, 1, 2, 0);
        Due.all("sheet", -1, x.season(-1, 9, 0, 99, 99), x.season(4, 1, 0, 1, 0), x.season(Due.MAX, 1, 0, 1, 0));
        Due.all("lane, n, what", -2, x.season(0, -1, 0, 1, 0), x.season(0, 3, 0, 1, 0), x.season(0, 1, 0, -1, 0), x.season(0, 1, 0, 21, 0),
            x.season(0, 1, 0, 1, -1), x.season(0, 1, 0, 1, 5), x.season(0, 1, 0, 1, 9), x.season(0, 1, 0, 1, 14),
            x.season(1, 1, 0, Due.MIN, 0), x.season(0, 2, 0, Due.MAX, 0), x.season(0, 1, 0, 1, Due.MAX));
        Due.due("fault", x.fault(), 0);
        Due.all("another lane", Due.CAST, x.season(0, 0, 0, 1, 0), x.season(0, 2, 99, 1, 0));
        Due.due("fault", x.fault(), 2);
        Due.all("nothing", Due.NULL, x.season(1, 0, 0, 1, 0), x.season(2, 2, 99, 1, 0));
        Due.due("fault", x.fault(), 1);
        Due.all("index", Due.INDEX, x.season(0, 1, 0, 4, 0), x.season(0, 1, 1, 3, 0), x.season(0, 1, -1, 1, 0), x.season(0, 1, 7, 0, 0),
            x.season(0, 1, -1, 0, 0), x.season(0, 1, 5, 1, 0), x.season(0, 1, Due.MAX, 20, 0), x.season(0, 1, Due.MIN, 20, 0));
        Due.due("fault", x.fault(), 3);
        Due.due("a season", x.season(0, 1, 0, 3, 1), -9);
        Due.due("fault", x.fault(), 0);
        Due.all("no such act", -2, Due.season(x, 0, 0, 4), Due.season(x, 0, 0, 9), Due.season(x, 0, 0, 14), Due.season(x, 0, 0, -1),
            Due.season(x, 0, 10, 3), Due.season(x, 0, -1, 3), Due.season(x, 0, 99, 4), Due.season(x, 0, 0, Due.MAX), Due.season(x, 0, 0, Due.MIN));
        Due.all("no such clock, house", -1, Due.season(x, 0, 3, 0), Due.season(x, 0, -1, 1), Due.season(x, 0, 3, 2), Due.season(x, 0, 5, 10),
            Due.season(x, 0, -1, 13), Due.season(x, 0, Due.MAX, 0), Due.season(x, 0, Due.MIN, 10));
        Due.due("pair by pair", Due.season(x, 0, 3, 0, 0, 4), -1);
        Due.due("pair by pair", Due.season(x, 0, 0, 4, 3, 0), -2);
        Due.due("a refusal behind a first wrong", Due.season(x, 1, 0, 2, 3, 0), -1);
        ClockWakers none = new ClockWakers();
        Due.due("nothing, ahead of no street", none.season(0, 0, 0, 0, 0), Due.NULL);
        Due.due("no street, ahead of the pairs", Due.season(none, 0, 0, 4), -3);
        Due.due("index, ahead of no street", none.season(0, 2, 0, 2, 0), Due.INDEX);
    }

    private static void seasonsChangeNothing() {
        ClockWakers x = Due.street(Due.FIVE);
        x.stuff(1);
        x.reading(0, 0, 0, 1);
        Due.due("a season", Due.season(x, 1, 0, 0, 0, 1, 1, 2, 5, 3, 4, 10), -9);
        Due.all("clocks stand", 0, x.ofClock(0, 2) - 2, x.ofClock(1, 2), x.ofClock(2, 2) - 4, x.ofClock(0, 3), x.ofClock(1, 3) - 1, x.many(3), x.many(4) - 1);
    }
}
