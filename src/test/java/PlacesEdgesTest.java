/** The edges of promises 15 to 19, sentence by sentence. */
final class PlacesEdgesTest {
    /** Clock 0 goes from house 3 to 1 and from there to 0: no street has a clock that goes more often. */
    private static final String TWO_STEPS = "c1;n1;s1;s9;s9,33";

    public static void main(String[] args) {
        round();
        from();
        settle();
        stillRefusals();
        stillFewest();
        stillFirst();
        hush();
        Due.endOf(15, 19);
    }

    private static void round() {
        ClockWakers x = Twin.busy();
        Due.promise(15, "UNKNOWN; OUTSIDE");
        Due.all("c", -1, x.round(-1, 0), x.round(3, 1), x.round(4, 0), x.round(Due.MIN, 0), x.round(Due.MAX, 1));
        Due.all("c ahead of what", -1, x.round(-1, -1), x.round(3, 2));
        Due.all("what", -2, x.round(0, -1), x.round(0, 2), x.round(2, Due.MIN), x.round(2, Due.MAX));
        Due.promise(15, "behind how many it first stands where it comes back to; by how many it does");
        Due.all("goes once", 1, x.round(0, 0), x.round(0, 1));
        Due.all("stays", 0, x.round(2, 0), x.round(2, 1) - 1);
        Twin.untouched(x);
        ClockWakers steps = Due.street(TWO_STEPS);
        for (int house = 3; house >= 0; house--) {
            steps.carry(0, house);
            int[] due = {0, 1, 1, 2};
            Due.due("from house " + house, steps.round(0, 0), due[house]);
            Due.due("by how many", steps.round(0, 1), 1);
            Due.due("it is not carried", steps.ofClock(0, 2), house);
        }
        for (int house = 0; house < 6; house++) {
            ClockWakers deaf = Due.street("c0;s9;s9;s9;s9;s9;s9,8" + house);
            Due.due("nobody wakes", deaf.round(0, 0), 0);
            Due.due("by how many", deaf.round(0, 1), 1);
        }
        Due.promise(15, "by STROKES of it alone");
        ClockWakers two = Due.street(TWO_STEPS + ",10");
        Due.due("clock 0", two.round(0, 0), 2);
        Due.due("clock 1, where it stands", two.round(1, 0), 0);
        two.stuff(0);
        Due.due("stuffed, nobody hears it", two.round(0, 0), 0);
    }

    private static void from() {
        ClockWakers x = Twin.busy();
        Due.promise(16, "UNKNOWN: HOUSE, CLOCK");
        Due.all("h", -1, x.from(-1, 0), x.from(5, 0), x.from(Due.MIN, 2), x.from(Due.MAX, 2));
        Due.all("c", -1, x.from(0, -1), x.from(0, 3), x.from(4, Due.MIN), x.from(4, Due.MAX), x.from(5, 3));
        Twin.untouched(x);
        Due.promise(16, "HOUSES from which by a STROKE of it he OWNS it");
        ClockWakers all = Due.street("c0;s9;s9;s9;s9;s9;s1,90");
        Due.due("all", all.from(5, 0), 63);
        Due.all("none", 0, all.from(0, 0), all.from(1, 0), all.from(4, 0));
        ClockWakers none = Due.street("c0;s9;s9;s9;s9;s9;s9,80");
        for (int h = 0; h < 6; h++) {
            Due.due("nobody wakes, he OWNS it from none", none.from(h, 0), 0);
        }
        ClockWakers own = Due.street("c3;s3;s3;s3;s3;s3;s3,40");
        for (int h = 0; h < 6; h++) {
            Due.due("each from his own", own.from(h, 0), 1 << h);
        }
        ClockWakers steps = Due.street(TWO_STEPS);
        int[] due = {7, 8, 0, 0};
        for (int h = 0; h < 4; h++) {
            Due.due("house " + h, steps.from(h, 0), due[h]);
        }
        Due.due("of several the least HOUSE", Due.street("c0;s9;s4;s4,42").from(1, 0), 7);
        Due.due("the other of them", Due.street("c0;s9;s4;s4,42").from(2, 0), 0);
    }

    private static void settle() {
        Due.promise(17, "STATE: there is no STREET");
        ClockWakers bare = Twin.bare();
        Due.due("no street", bare.settle(), -3);
        Twin.untouched(bare, Twin.bare());
        Due.promise(17, "behind how many NIGHTS (0 .. 99) all CLOCKS stand where they stand another NIGHT on");
        ClockWakers steps = Due.street(TWO_STEPS + ",10,10,10");
        Due.due("the first clock goes twice", steps.settle(), 2);
        Due.due("again", steps.settle(), 2);
        Due.all("nothing is changed", 0, steps.ofClock(0, 2) - 3, steps.many(3));
        steps.nights(1);
        Due.due("it goes once more", steps.settle(), 1);
        steps.nights(1);
        Due.due("it stays", steps.settle(), 0);
        Due.due("the last clock goes twice", Due.street("c1;n1;s1;s9;s9,10,10,10,33").settle(), 2);
        Due.due("nobody wakes", Due.street("c3;s9;s9,10,11").settle(), 0);
        Due.due("they wake where they stand", Due.street("c0;s1;s9,10,90").settle(), 0);
        ClockWakers x = Twin.busy();
        Due.due("busy", x.settle(), 1);
        Twin.untouched(x);
    }

    private static void stillRefusals() {
        ClockWakers x = Twin.busy();
        Due.promise(18, "OUTSIDE; STATE: there is no STREET");
        Due.all("k", -2, x.still(-2), x.still(4), x.still(Due.MIN), x.still(Due.MAX));
        Due.promise(18, "NONE: there is no such CLOCK");
        Due.due("clock 3 of three", x.still(3), -9);
        Twin.untouched(x);
        ClockWakers bare = Twin.bare();
        Due.promise(18, "OUTSIDE; STATE: there is no STREET");
        Due.all("no street", -3, bare.still(-1), bare.still(0), bare.still(3));
        Due.all("k ahead of no street", -2, bare.still(-2), bare.still(4));
        Twin.untouched(bare, Twin.bare());
        Due.promise(18, "how many WAKE (k -1), the HOUSE of CLOCK k (0 .. 3); NONE: there is no such CLOCK");
        for (int clocks = 1; clocks <= 4; clocks++) {
            ClockWakers y = Due.street("c3;n1;s9" + ",30".repeat(clocks));
            Due.due("nobody wakes", y.still(-1), 0);
            for (int k = 0; k < 4; k++) {
                Due.due("clock " + k + " of " + clocks, y.still(k), k < clocks ? 1 : -9);
            }
        }
    }

    private static void row(String what, ClockWakers x, int fewest, int... houses) {
        Due.due(what + ", fewest", x.still(-1), fewest);
        for (int k = 0; k < houses.length; k++) {
            Due.due(what + ", clock " + k, x.still(k), houses[k]);
        }
    }

    private static void stillFewest() {
        Due.promise(18, "so that the fewest WAKE by any of them");
        row("all wake, wherever", Due.street("c0;s1;s1;s1;s1;s1;s1,95,95,95,95"), 6, 0, 0, 0, 0);
        row("nobody, wherever", Due.street("c0;s9;s9;s9;s9;s9;s9,85,85,85,85"), 0, 0, 0, 0, 0);
        row("nobody, in the last house", Due.street("c3;n1;n1;n1;n1;n1;s9,35,30"), 0, 5, 5);
        // clock 2 wakes two at least, one of whom clock 0 may wake, too, and one clock 1
        row("with those who wake anyway", Due.street("c3;s2;s4;s9,20,40,90"), 2, 0, 0, 0);
        row("both with the one who wakes anyway", Due.street("c3;s1;s2;s3,30,30"), 1, 0, 0);
        Due.promise(18, "STUFFED or not as they are");
        ClockWakers x = Due.street("c3;s2;s4;s9,20,40,90");
        x.stuff(2);
        row("stuffed, each clock in the first house where it wakes nobody", x, 0, 1, 2, 2);
        x.ease(2);
        row("eased", x, 2, 0, 0, 0);
        ClockWakers again = Due.street("c3;s2;s9,20,20");
        row("both in the last house", again, 0, 1, 1);
        again.wall(0);
        again.drowse(1, 1);
        row("by now all wake, wherever", again, 2, 0, 0);
        Due.all("nothing is carried", 0, x.ofClock(0, 2), x.ofClock(1, 2), x.ofClock(2, 2));
    }

    private static void stillFirst() {
        Due.promise(18, "of several rows (of HOUSES of CLOCK 0, 1, ..) the first");
        row("the first house of alike ones", Due.street("c3;s1;s1;s1,30,10"), 1, 0, 0);
        ClockWakers x = Due.street("c3;s9;s1;s1;s9,30,30");
        row("in the houses of the deaf ones", x, 0, 0, 0);
        x.drowse(0, 1);
        row("in the last house", x, 0, 3, 3);
        x.tune(0, 9);
        // 9 at house 3 wakes houses 2, 1 (6, 3) and itself; at house 0 itself, 1 and 2
        row("a loud one first", x, 3, 0, 0);
        row("one on, the next in the first house", Due.street("c3;s2;s9,20,10"), 0, 1, 0);
        row("each second one on", Due.street("c3;s2;s9,20,10,20,10"), 0, 1, 0, 1, 0);
        row("the others on", Due.street("c3;s2;s9,10,20,10,20"), 0, 0, 1, 0, 1);
        row("the first on, all others in the first house", Due.street("c3;s2;s9,20,10,10,10"), 0, 1, 0, 0, 0);
        ClockWakers last = Due.street("c3;s1;s1;s9;s1;s1;s9,30,30,30,30");
        row("the third house ahead of the sixth", last, 0, 2, 2, 2, 2);
        last.drowse(2, 1);
        row("the sixth", last, 0, 5, 5, 5, 5);
    }

    private static void hush() {
        ClockWakers x = Twin.busy();
        Due.promise(19, "UNKNOWN");
        Due.all("h", -1, x.hush(-1), x.hush(5), x.hush(6), x.hush(Due.MIN), x.hush(Due.MAX));
        Due.due("an ordinary one", x.hush(0), 1);
        Twin.untouched(x);
        Due.promise(19, "the fewest CLOCKS, that are not STUFFED yet, to be STUFFED so that he WAKES by none where they stand");
        ClockWakers four = Due.street("c0;s5;s9,90,91,90,91");
        Due.due("all four", four.hush(0), 15);
        four.stuff(0);
        Due.due("all but the stuffed", four.hush(0), 14);
        four.carry(3, 0);
        four.tune(3, 4);
        Due.due("not one that does not wake him", four.hush(0), 6);
        four.stuff(1);
        four.stuff(2);
        Due.due("none", four.hush(0), 0);
        four.drowse(0, 4);
        Due.promise(19, "NONE: it can't be");
        Due.due("one that is stuffed wakes him", four.hush(0), -9);
        ClockWakers edge = Due.street("c0;s4;s5,90");
        Due.due("half of 9 wakes one who needs 4", edge.hush(0), -9);
        Due.due("and not one who needs 5", edge.hush(1), 1);
        edge.tune(0, 7);
        Due.due("half of 7 does not", edge.hush(0), 1);
        Due.due("none is stuffed by asking", edge.ofClock(0, 3), 0);
        ClockWakers light = Due.street("c1;n1;b1,10,20,31");
        Due.due("half of 2 wakes who needs nothing", light.hush(0), -9);
        light.tune(1, 1);
        Due.due("half of 1 is nothing, half of 3 less a wall, too", light.hush(0), 7);
        Due.due("where they stand", light.hush(1), -9);
    }
}
