/** Promises 20 to 26: reading, back, depths, kinds, louds, walls, odds. */
final class ReadingsTest {
    public static void main(String[] args) {
        noReadings();
        notingAndTakingBack();
        guesses();
        othersStayAsTheyAre();
        stuffedWhenAsked();
        odds();
        Due.end();
    }

    private static void noReadings() {
        ClockWakers x = Due.street(Due.FIVE);
        Due.all("all are possible", 0, x.depths(0) - 1022, x.kinds(4) - 7, x.louds(2) - 1022, x.walls() - 15);
        Due.all("no such house, clock", -1, x.depths(-1), x.depths(5), x.kinds(-1), x.kinds(5), x.louds(-1), x.louds(3),
            x.depths(Due.MAX), x.kinds(Due.MIN), x.louds(Due.MAX));
        Due.due("no street", new ClockWakers().walls(), -3);
    }

    private static void notingAndTakingBack() {
        ClockWakers x = Due.street(Due.FIVE);
        for (int k = 0; k < 8; k++) {
            Due.due("number", x.reading(0, 2, 0, 1), k);
        }
        Due.due("full", x.reading(0, 2, 0, 1), -4);
        Due.due("many", x.many(4), 8);
        Due.all("unknown, outside ahead of full", -1, x.reading(3, 2, 0, 2), x.reading(-1, 2, 0, 1), x.reading(0, 5, 0, 1), x.reading(0, -1, 0, 1),
            x.reading(0, 2, 5, 1), x.reading(0, 2, -1, 1), x.reading(Due.MAX, 2, 0, 1), x.reading(0, Due.MIN, 0, 1), x.reading(0, 0, Due.MAX, 1));
        Due.all("woke", -2, x.reading(0, 2, 0, 2), x.reading(0, 2, 0, -1), x.reading(0, 2, 0, Due.MIN));
        Due.all("back", -2, x.back(-1), x.back(9), x.back(Due.MAX), x.back(Due.MIN));
        Due.due("back", x.back(0), 8);
        Due.due("back", x.back(3), 5);
        Due.due("number", x.reading(0, 2, 0, 0), 5);
        Due.due("back", x.back(6), 0);
        Due.due("back", x.back(1), -2);
        Due.due("none is left", x.depths(0), 1022);
        Due.due("without a street", new ClockWakers().back(0), 0);
        Due.due("without a street", new ClockWakers().reading(0, 0, 0, 2), -1);
    }

    private static void guesses() {
        ClockWakers x = Due.street(Due.FIVE);
        x.reading(0, 2, 0, 1);
        Due.all("one woke", 0, x.depths(0) - 254, x.kinds(0) - 7, x.louds(0) - 896, x.walls() - 7);
        Due.all("what is not read", 0, x.depths(2) - 1022, x.louds(1) - 1022);
        // clock 1 sounds 5 and is heard as 4 in house 1
        x.back(1);
        x.reading(1, 0, 1, 0);
        Due.all("one did not wake", 0, x.depths(1) - 0b1111000000, x.kinds(1) - 1 + 1, x.louds(1) - 0b1110, x.walls() - 0b1000);
        x.back(1);
        x.drowse(1, 9);
        x.reading(1, 0, 1, 0);
        x.reading(0, 1, 1, 1);
        // needing 5 to 9: a sleeper's 9, a nervous one's 8, not a baby's 4
        Due.all("both", 0, x.kinds(1) - 3, x.depths(1) - 0b1111000000, x.walls() - 15);
        ClockWakers silent = Due.street("c3;s1;b1,90");
        silent.reading(0, 0, 1, 0);
        Due.due("nothing heard wakes nobody", silent.louds(0), 0b1110);
    }

    private static void othersStayAsTheyAre() {
        ClockWakers x = Due.street(Due.FIVE);
        x.reading(0, 2, 0, 1);
        x.reading(0, 0, 4, 0);
        Due.all("what is wrong elsewhere stays wrong", 0, x.depths(0), x.kinds(0), x.louds(0), x.walls(), x.depths(4) - 896, x.kinds(4));
        Due.all("nothing is changed", 0, x.ofHouse(4, 1) - 1, x.ofHouse(4, 0) - 1, x.ofClock(0, 0) - 9, x.many(2) - 1);
        x.drowse(4, 8);
        Due.due("by what all is now", x.depths(0), 254);
        x.carry(0, 4);
        Due.due("where it stood when it was read", x.depths(0), 254);
    }

    private static void stuffedWhenAsked() {
        ClockWakers x = Due.street("c0;s5;s5,80");
        x.stuff(0);
        x.reading(0, 0, 0, 1);
        Due.all("through its stuffing", 0, x.depths(0) - 0b11110, x.kinds(0) - 0b110, x.louds(0), x.walls());
        x.ease(0);
        Due.all("eased behind the reading", 0, x.depths(0) - 0b111111110, x.kinds(0) - 0b111, x.louds(0) - 0b1111100000, x.walls() - 15);
        x.reading(0, 1, 0, 1);
        x.stuff(0);
        Due.all("stuffed behind one of them", 0, x.depths(0) - 0b11110, x.kinds(0) - 0b110, x.louds(0), x.walls());
        x.back(2);
        x.ease(0);
        x.reading(0, 0, 0, 0);
        Due.all("he would wake", 0, x.depths(0) - 0b1000000000, x.kinds(0), x.louds(0) - 0b11110, x.walls());
        x.stuff(0);
        Due.all("he would not, stuffed", 0, x.depths(0) - 0b1111100000, x.kinds(0) - 1, x.louds(0) - 0b1111111110, x.walls() - 15);
        onlyItsOwnStuffing();
    }

    private static void onlyItsOwnStuffing() {
        ClockWakers x = Due.street("c0;s5;s5,80,81");
        x.reading(0, 0, 0, 1);
        x.stuff(1);
        Due.all("another clock's stuffing", 0, x.depths(0) - 0b111111110, x.louds(1) - 1022, x.walls() - 15);
        x.stuff(0);
        Due.all("what is read of clock 0 binds clock 1's guesses", 0, x.louds(1), x.depths(1));
    }

    private static void odds() {
        ClockWakers x = Due.street(Due.FIVE);
        long[][] due = {{3, 5}, {14, 15}, {1, 1}, {1, 15}, {1, 1}};
        for (int h = 0; h < 5; h++) {
            Due.due("upper", x.odds(h, 0), due[h][0]);
            Due.due("lower", x.odds(h, 1), due[h][1]);
        }
        x.stuff(0);
        Due.due("stuffed", x.odds(3, 0), 0);
        Due.due("0 of 1", x.odds(3, 1), 1);
        Due.all("LOST", Long.MIN_VALUE, x.odds(-1, 0), x.odds(5, 0), x.odds(0, -1), x.odds(0, 2), new ClockWakers().odds(0, 0), x.odds(Due.MIN, Due.MAX));
    }
}
