/** Promises 15 to 19: round, from, settle, still, hush. */
final class PlacesTest {
    private static final String TWO_STEPS = "c1;n1;s1;s9;s9,33";

    public static void main(String[] args) {
        rounds();
        origins();
        settling();
        stillest();
        hushing();
        Due.end();
    }

    private static void rounds() {
        ClockWakers x = Due.street(Due.FIVE);
        Due.due("goes once", x.round(0, 0), 1);
        Due.due("and stays", x.round(0, 1), 1);
        Due.due("stays from the first", x.round(2, 0), 0);
        Due.due("and stays", x.round(2, 1), 1);
        // from house 3 house 0 hears just nothing, so house 1 gets it; from there house 0 is alike, and the least
        ClockWakers steps = Due.street(TWO_STEPS);
        Due.due("goes twice", steps.round(0, 0), 2);
        Due.due("and stays", steps.round(0, 1), 1);
        ClockWakers silent = Due.street("c3;s9;s9,10");
        Due.all("nobody wakes: it stays", 0, silent.round(0, 0), silent.round(0, 1) - 1);
        Due.due("nothing is changed", x.ofClock(0, 2), 2);
        Due.all("no such clock", -1, x.round(-1, 0), x.round(3, 0), x.round(3, 2), new ClockWakers().round(0, 0));
        Due.all("what", -2, x.round(0, -1), x.round(0, 2), x.round(0, Due.MAX), x.round(0, Due.MIN));
    }

    private static void origins() {
        ClockWakers x = Due.street(Due.FIVE);
        for (int c = 0; c < 3; c++) {
            int[] due = {0, 3, 0, 0, 28};
            for (int h = 0; h < 5; h++) {
                Due.due("from", x.from(h, c), due[h]);
            }
        }
        ClockWakers deaf = Due.street("c3;s9;s9;s3,42");
        Due.all("where it stays because nobody wakes he owns nothing", 0, deaf.from(0, 0), deaf.from(1, 0));
        Due.due("from his own", deaf.from(2, 0), 4);
        Due.all("no such house, clock", -1, x.from(-1, 0), x.from(5, 0), x.from(0, -1), x.from(0, 3), x.from(Due.MAX, Due.MIN));
    }

    private static void settling() {
        Due.due("no street", new ClockWakers().settle(), -3);
        ClockWakers x = Due.street(Due.FIVE);
        Due.due("behind one night", x.settle(), 1);
        Due.all("nothing is changed", 0, x.ofClock(0, 2) - 2, x.ofClock(1, 2), x.many(3));
        x.nights(1);
        Due.due("from the first", x.settle(), 0);
        Due.due("behind two nights", Due.street(TWO_STEPS).settle(), 2);
        Due.due("nobody wakes", Due.street("c3;s9;s9,10").settle(), 0);
    }

    private static void stillest() {
        ClockWakers x = Due.street(Due.FIVE);
        Due.all("fewest, first row", 0, x.still(-1) - 4, x.still(0), x.still(1), x.still(2));
        Due.due("no clock 3", x.still(3), -9);
        x.stuff(1);
        x.wall(2);
        Due.all("fewest, first row", 0, x.still(-1) - 3, x.still(0) - 4, x.still(1), x.still(2) - 2);
        Due.all("nothing is changed", 0, x.ofClock(0, 2) - 2, x.ofClock(1, 2), x.ofClock(2, 2) - 4);
        ClockWakers most = Due.street("c3;n1;n1;n1;n1;n1;s9,90,90,90,90");
        // 9 in the last house wakes him, too; the first house wakes three
        Due.due("fewest", most.still(-1), 3);
        Due.all("all in the first house", 0, most.still(0), most.still(1), most.still(2), most.still(3));
        ClockWakers loud = Due.street("c0;s1;s2,90,90");
        Due.all("all wake, wherever", 0, loud.still(-1) - 2, loud.still(0), loud.still(1));
        loud.drowse(1, 9);
        loud.tune(0, 8);
        loud.tune(1, 8);
        Due.all("all but one", 0, loud.still(-1) - 1, loud.still(0), loud.still(1));
        ClockWakers quiet = Due.street("c3;n1;s9;s9,30,30");
        Due.all("nobody wakes", 0, quiet.still(-1), quiet.still(0) - 1, quiet.still(1) - 1);
        Due.all("clock", -2, x.still(-2), x.still(4), x.still(Due.MAX), x.still(Due.MIN), new ClockWakers().still(4));
        Due.all("no street", -3, new ClockWakers().still(-1), new ClockWakers().still(3));
    }

    private static void hushing() {
        ClockWakers x = Due.street(Due.FIVE);
        Due.all("which", 3, x.hush(0));
        Due.due("can't be", x.hush(1), -9);
        Due.due("none need be", x.hush(3), 0);
        x.stuff(1);
        Due.due("that are not stuffed yet", x.hush(0), 1);
        Due.due("all four", Due.street("c0;s5;s9,90,80,71,61").hush(0), 15);
        ClockWakers stuffed = Due.street("c0;s2;s9,50");
        stuffed.stuff(0);
        Due.due("one that is stuffed wakes him", stuffed.hush(0), -9);
        Due.due("and not the other", stuffed.hush(1), 0);
        Due.due("nothing is changed", x.ofClock(0, 3), 0);
        Due.all("no such house", -1, x.hush(-1), x.hush(5), x.hush(Due.MAX), x.hush(Due.MIN), new ClockWakers().hush(0));
    }
}
