import java.util.ArrayList;
import java.util.Arrays;
import java.util.List;
import java.util.regex.Matcher;
import java.util.regex.Pattern;

/** The document once more, in another way and with the Java library, to compare the class with by random runs. */
final class Model {
    private static final class House {
        int kind, depth;
    }

    private static final class Clock {
        int loud, place;
        boolean stuffed;

        Clock again() {
            Clock clock = new Clock();
            clock.loud = loud;
            clock.place = place;
            clock.stuffed = stuffed;
            return clock;
        }
    }

    private record Reading(int clock, int at, int house, boolean woke) {
    }

    private static final class Row {
        int lane;
        int[] cells;
    }

    private List<House> houses = new ArrayList<>();
    private List<Clock> clocks = new ArrayList<>();
    private final List<Reading> readings = new ArrayList<>();
    private final Row[] rows = new Row[4];
    private int wall, night, trace, fault;

    /** Answers a call by its name; the answer of a long one is LOST for refusals and faults. */
    long answer(String name, int[] a) {
        switch (name) {
            case "street": return named(street(a[0], a[1], a[2], a[3]));
            case "ofHouse": return ofHouse(a[0], a[1]);
            case "ofClock": return ofClock(a[0], a[1]);
            case "drowse": return drowse(a[0], a[1]);
            case "tune": return tune(a[0], a[1]);
            case "wall": return wall(a[0]);
            case "hears": return isHouse(a[0]) && isClock(a[1]) ? heard(a[0], sound(a[1]), clocks.get(a[1]).place) : Long.MIN_VALUE;
            case "stroke": return isClock(a[0]) ? strike(a[0]) : -1;
            case "nights": return nights(a[0]);
            case "stuff": return turn(a[0], true);
            case "ease": return turn(a[0], false);
            case "carry": return carry(a[0], a[1]);
            case "season": return named(season(a[0], a[1], a[2], a[3], a[4]));
            case "round": return round(a[0], a[1]);
            case "from": return from(a[0], a[1]);
            case "settle": return settle();
            case "still": return still(a[0]);
            case "hush": return hush(a[0]);
            case "reading": return reading(a[0], a[1], a[2], a[3]);
            case "back": return back(a[0]);
            case "depths": return depths(a[0]);
            case "kinds": return kinds(a[0]);
            case "louds": return louds(a[0]);
            case "walls": return walls();
            case "odds": return odds(a[0], a[1]);
            case "sheet": return named(sheet(a[0], a[1], a[2]));
            case "lose": return lose(a[0]);
            case "put": return named(put(a[0], a[1], a[2]));
            case "cell": return cell(a[0], a[1], a[2]);
            case "copy": return named(copy(a[0], a[1], a[2], a[3], a[4]));
            case "tell": return isHouse(a[0]) ? tell(houses.get(a[0]).kind, houses.get(a[0]).depth) : -1;
            case "call": return call(a[0]);
            case "as": return named(!isHouse(a[0]) ? -1 : a[1] < 0 || a[1] > 2 ? -2 : houses.get(a[0]).kind >= a[1] ? 1 : -12);
            case "trace": return trace;
            case "fault": return fault;
            case "many": return many(a[0]);
            default: throw new IllegalArgumentException(name);
        }
    }

    private int named(int answer) {
        fault = answer <= -11 && answer >= -14 ? -10 - answer : 0;
        return answer;
    }

    private boolean isHouse(int h) {
        return h >= 0 && h < houses.size();
    }

    private boolean isClock(int c) {
        return c >= 0 && c < clocks.size();
    }

    // ---- texts

    private static final Pattern[] TEXTS = new Pattern[5];

    static {
        for (int k = 0; k < 5; k++) {
            int n = k + 2;
            TEXTS[k] = Pattern.compile("c[0-3](;[snb][1-9]){" + n + "}(,[1-9][0-" + (n - 1) + "]){1,4}");
        }
    }

    private static boolean goesOn(String start) {
        for (Pattern text : TEXTS) {
            Matcher m = text.matcher(start);
            if (m.matches() || m.hitEnd()) {
                return true;
            }
        }
        return false;
    }

    private int street(int k, int lane, int i, int n) {
        int refusal = rowRefusal(k, lane);
        if (refusal != 0) {
            return refusal;
        }
        if (n < 0) {
            return -14;
        }
        if (lacks(rows[k], i, n)) {
            return -13;
        }
        StringBuilder b = new StringBuilder();
        for (int j = 0; j < n; j++) {
            int code = rows[k].cells[i + j];
            b.append(code > 0 && code < 128 ? (char) code : '?');
        }
        String text = b.toString();
        for (int j = 1; j <= n; j++) {
            if (!goesOn(text.substring(0, j))) {
                return -100 - (j - 1);
            }
        }
        if (Arrays.stream(TEXTS).noneMatch(t -> t.matcher(text).matches())) {
            return -100 - n;
        }
        take(text);
        return clocks.size();
    }

    private void take(String text) {
        houses = new ArrayList<>();
        clocks = new ArrayList<>();
        readings.clear();
        night = 0;
        wall = text.charAt(1) - '0';
        for (int j = 2; j < text.length(); j += 3) {
            if (text.charAt(j) == ';') {
                House house = new House();
                house.kind = "snb".indexOf(text.charAt(j + 1));
                house.depth = text.charAt(j + 2) - '0';
                houses.add(house);
            } else {
                Clock clock = new Clock();
                clock.loud = text.charAt(j + 1) - '0';
                clock.place = text.charAt(j + 2) - '0';
                clocks.add(clock);
            }
        }
    }

    // ---- who wakes

    private int needs(int h) {
        House house = houses.get(h);
        return house.kind == 0 ? house.depth : house.kind == 1 ? house.depth - 1 : house.depth / 2;
    }

    private int sound(int c) {
        Clock clock = clocks.get(c);
        return clock.stuffed ? clock.loud / 2 : clock.loud;
    }

    private int heard(int h, int sound, int at) {
        return sound - wall * Math.abs(at - h);
    }

    private boolean wakes(int h, int sound, int at) {
        return heard(h, sound, at) >= Math.max(1, needs(h));
    }

    private int owner(int c, int at) {
        int owner = -9;
        for (int h = houses.size() - 1; h >= 0; h--) {
            if (wakes(h, sound(c), at)
                && (owner == -9 || heard(h, sound(c), at) - needs(h) >= heard(owner, sound(c), at) - needs(owner))) {
                owner = h;
            }
        }
        return owner;
    }

    private int strike(int c) {
        int owner = owner(c, clocks.get(c).place);
        if (owner != -9) {
            clocks.get(c).place = owner;
        }
        return owner;
    }

    private int ofHouse(int h, int what) {
        if (!isHouse(h)) {
            return -1;
        }
        int stand = 0;
        int wake = 0;
        for (int c = 0; c < clocks.size(); c++) {
            stand += clocks.get(c).place == h ? 1 << c : 0;
            wake += wakes(h, sound(c), clocks.get(c).place) ? 1 << c : 0;
        }
        int[] all = {houses.get(h).kind, houses.get(h).depth, needs(h), stand, wake};
        return what < 0 || what > 4 ? -2 : all[what];
    }

    private int wakers(int c, int at) {
        int set = 0;
        for (int h = 0; h < houses.size(); h++) {
            set += wakes(h, sound(c), at) ? 1 << h : 0;
        }
        return set;
    }

    private int ofClock(int c, int what) {
        if (!isClock(c)) {
            return -1;
        }
        Clock clock = clocks.get(c);
        int[] all = {clock.loud, sound(c), clock.place, clock.stuffed ? 1 : 0, wakers(c, clock.place), owner(c, clock.place)};
        return what < 0 || what > 5 ? -2 : all[what];
    }

    private int drowse(int h, int v) {
        if (!isHouse(h)) {
            return -1;
        }
        if (v < 1 || v > 9) {
            return -2;
        }
        int was = houses.get(h).depth;
        houses.get(h).depth = v;
        return was;
    }

    private int tune(int c, int v) {
        if (!isClock(c)) {
            return -1;
        }
        if (v < 1 || v > 9) {
            return -2;
        }
        int was = clocks.get(c).loud;
        clocks.get(c).loud = v;
        return was;
    }

    private int wall(int v) {
        if (v < 0 || v > 3) {
            return -2;
        }
        if (houses.isEmpty()) {
            return -3;
        }
        int was = wall;
        wall = v;
        return was;
    }

    // ---- strokes

    private List<Integer> places() {
        List<Integer> places = new ArrayList<>();
        for (Clock clock : clocks) {
            places.add(clock.place);
        }
        return places;
    }

    private List<Clock> clocksAgain() {
        List<Clock> again = new ArrayList<>();
        for (Clock clock : clocks) {
            again.add(clock.again());
        }
        return again;
    }

    private void pass() {
        for (int c = 0; c < clocks.size(); c++) {
            strike(c);
        }
    }

    private int nights(int n) {
        if (n < 1 || n > 60) {
            return -2;
        }
        if (houses.isEmpty()) {
            return -3;
        }
        List<Integer> before = places();
        for (int k = 0; k < n; k++) {
            pass();
        }
        night += n;
        int elsewhere = 0;
        for (int c = 0; c < clocks.size(); c++) {
            elsewhere += clocks.get(c).place == before.get(c) ? 0 : 1;
        }
        return elsewhere;
    }

    private int turn(int c, boolean stuffed) {
        if (!isClock(c)) {
            return -1;
        }
        if (clocks.get(c).stuffed == stuffed) {
            return -3;
        }
        clocks.get(c).stuffed = stuffed;
        return (int) clocks.stream().filter(clock -> clock.stuffed).count();
    }

    private int carry(int c, int h) {
        if (!isClock(c) || !isHouse(h)) {
            return -1;
        }
        int was = clocks.get(c).place;
        clocks.get(c).place = h;
        return was;
    }

    private int season(int k, int lane, int i, int n, int what) {
        if (k < 0 || k > 3) {
            return -1;
        }
        if (n < 0 || n > 20 || !(what >= 0 && what <= 4 || what >= 10 && what <= 13)) {
            return -2;
        }
        int refusal = rowRefusal(k, lane);
        if (refusal != 0) {
            return refusal;
        }
        if (lacks(rows[k], i, 2 * n)) {
            return -13;
        }
        if (houses.isEmpty()) {
            return -3;
        }
        for (int j = 0; j < n; j++) {
            int first = rows[k].cells[i + 2 * j];
            int act = rows[k].cells[i + 2 * j + 1];
            boolean carries = act >= 10 && act <= 13;
            if (!(act >= 0 && act <= 3 || carries) || act == 3 && (first < 0 || first > 9)) {
                return -2;
            }
            if (act <= 2 && !isClock(first) || carries && !isHouse(first)) {
                return -1;
            }
        }
        List<Clock> kept = clocks;
        clocks = clocksAgain();
        int answer = play(Arrays.copyOfRange(rows[k].cells, i, i + 2 * n), what);
        clocks = kept;
        return answer;
    }

    private int play(int[] pairs, int what) {
        List<Integer> strokes = new ArrayList<>();
        int carried = 0;
        int unheard = 0;
        for (int j = 0; j < pairs.length; j += 2) {
            int first = pairs[j];
            int act = pairs[j + 1];
            strokes.clear();
            boolean can = true;
            if (act == 0) {
                strokes.add(first);
            } else if (act == 3) {
                for (int k = 0; k < first * clocks.size(); k++) {
                    strokes.add(k % clocks.size());
                }
            } else if (act >= 10) {
                can = carry(act - 10, first) >= 0;
            } else {
                can = turn(first, act == 1) >= 0;
            }
            if (!can) {
                return what == 1 ? j / 2 : -100 - j / 2;
            }
            for (int c : strokes) {
                int before = clocks.get(c).place;
                unheard += strike(c) == -9 ? 1 : 0;
                carried += clocks.get(c).place != before ? 1 : 0;
            }
        }
        int stuffed = 0;
        int stand = 0;
        for (int c = 0; c < clocks.size(); c++) {
            stuffed |= clocks.get(c).stuffed ? 1 << c : 0;
            stand |= 1 << clocks.get(c).place;
        }
        int[] all = {stuffed, -9, carried, unheard, stand};
        return what < 5 ? all[what] : isClock(what - 10) ? clocks.get(what - 10).place : -9;
    }

    // ---- where clocks stand

    private int round(int c, int what) {
        if (!isClock(c)) {
            return -1;
        }
        if (what != 0 && what != 1) {
            return -2;
        }
        int at = clocks.get(c).place;
        List<Integer> stood = new ArrayList<>();
        while (!stood.contains(at)) {
            stood.add(at);
            at = owner(c, at) == -9 ? at : owner(c, at);
        }
        return what == 0 ? stood.indexOf(at) : stood.size() - stood.indexOf(at);
    }

    private int from(int h, int c) {
        if (!isHouse(h) || !isClock(c)) {
            return -1;
        }
        int set = 0;
        for (int at = 0; at < houses.size(); at++) {
            set += owner(c, at) == h ? 1 << at : 0;
        }
        return set;
    }

    private int settle() {
        if (houses.isEmpty()) {
            return -3;
        }
        List<Clock> kept = clocks;
        clocks = clocksAgain();
        int answer = -9;
        for (int k = 0; k <= 99 && answer == -9; k++) {
            List<Integer> before = places();
            pass();
            answer = places().equals(before) ? k : -9;
        }
        clocks = kept;
        return answer;
    }

    private int still(int k) {
        if (k < -1 || k > 3) {
            return -2;
        }
        if (houses.isEmpty()) {
            return -3;
        }
        int[] best = null;
        int fewest = 99;
        int rowsInAll = (int) Math.pow(houses.size(), clocks.size());
        for (int r = 0; r < rowsInAll; r++) {
            int[] row = new int[clocks.size()];
            int rest = r;
            for (int c = clocks.size() - 1; c >= 0; c--) {
                row[c] = rest % houses.size();
                rest /= houses.size();
            }
            int set = 0;
            for (int c = 0; c < row.length; c++) {
                set |= wakers(c, row[c]);
            }
            if (Integer.bitCount(set) < fewest) {
                fewest = Integer.bitCount(set);
                best = row;
            }
        }
        return k == -1 ? fewest : isClock(k) ? best[k] : -9;
    }

    private int hush(int h) {
        if (!isHouse(h)) {
            return -1;
        }
        List<Clock> kept = clocks;
        int best = -9;
        for (int set = 0; set < 1 << kept.size(); set++) {
            clocks = kept;
            clocks = clocksAgain();
            boolean can = true;
            for (int c = 0; c < clocks.size(); c++) {
                if ((set >> c & 1) == 1) {
                    can &= turn(c, true) >= 0;
                }
            }
            if (can && ofHouse(h, 4) == 0 && (best == -9 || Integer.bitCount(set) < Integer.bitCount(best))) {
                best = set;
            }
        }
        clocks = kept;
        return best;
    }

    // ---- who woke

    private int reading(int c, int at, int h, int woke) {
        if (!isClock(c) || !isHouse(at) || !isHouse(h)) {
            return -1;
        }
        if (woke != 0 && woke != 1) {
            return -2;
        }
        if (readings.size() == 8) {
            return -4;
        }
        readings.add(new Reading(c, at, h, woke == 1));
        return readings.size() - 1;
    }

    private int back(int n) {
        if (n < 0 || n > readings.size()) {
            return -2;
        }
        for (int k = 0; k < n; k++) {
            readings.remove(readings.size() - 1);
        }
        return readings.size();
    }

    private boolean allAreSo() {
        return readings.stream().allMatch(r -> wakes(r.house, sound(r.clock), r.at) == r.woke);
    }

    private int depths(int h) {
        if (!isHouse(h)) {
            return -1;
        }
        int was = houses.get(h).depth;
        int set = 0;
        for (int d = 1; d <= 9; d++) {
            houses.get(h).depth = d;
            set += allAreSo() ? 1 << d : 0;
        }
        houses.get(h).depth = was;
        return set;
    }

    private int kinds(int h) {
        if (!isHouse(h)) {
            return -1;
        }
        int was = houses.get(h).kind;
        int set = 0;
        for (int k = 0; k <= 2; k++) {
            houses.get(h).kind = k;
            set += allAreSo() ? 1 << k : 0;
        }
        houses.get(h).kind = was;
        return set;
    }

    private int louds(int c) {
        if (!isClock(c)) {
            return -1;
        }
        int was = clocks.get(c).loud;
        int set = 0;
        for (int l = 1; l <= 9; l++) {
            clocks.get(c).loud = l;
            set += allAreSo() ? 1 << l : 0;
        }
        clocks.get(c).loud = was;
        return set;
    }

    private int walls() {
        if (houses.isEmpty()) {
            return -3;
        }
        int was = wall;
        int set = 0;
        for (wall = 0; wall <= 3; wall++) {
            set += allAreSo() ? 1 << wall : 0;
        }
        wall = was;
        return set;
    }

    private long odds(int h, int which) {
        if (!isHouse(h) || which != 0 && which != 1) {
            return Long.MIN_VALUE;
        }
        int upper = 0;
        for (int c = 0; c < clocks.size(); c++) {
            for (int at = 0; at < houses.size(); at++) {
                upper += wakes(h, sound(c), at) ? 1 : 0;
            }
        }
        int lower = clocks.size() * houses.size();
        int a = lower;
        int b = upper;
        while (b != 0) {
            int rest = a % b;
            a = b;
            b = rest;
        }
        return which == 0 ? upper / a : lower / a;
    }

    // ---- sheets, telling

    private static boolean lacks(Row row, int i, int n) {
        return i < 0 || n < 0 || (long) i + n > row.cells.length;
    }

    private int rowRefusal(int k, int lane) {
        if (k < 0 || k > 3) {
            return -1;
        }
        if (lane < 0 || lane > 2) {
            return -2;
        }
        return rows[k] == null ? -11 : rows[k].lane != lane ? -12 : 0;
    }

    private int sheet(int k, int lane, int n) {
        if (k < 0 || k > 3) {
            return -1;
        }
        if (lane < 0 || lane > 2 || n > 60) {
            return -2;
        }
        if (n < 0) {
            return -14;
        }
        rows[k] = new Row();
        rows[k].lane = lane;
        rows[k].cells = new int[n];
        return 1;
    }

    private int lose(int k) {
        if (k < 0 || k > 3) {
            return -1;
        }
        int had = rows[k] == null ? 0 : 1;
        rows[k] = null;
        return had;
    }

    private int put(int k, int i, int v) {
        if (k < 0 || k > 3) {
            return -1;
        }
        if (rows[k] == null) {
            return -11;
        }
        if (lacks(rows[k], i, 1)) {
            return -13;
        }
        int shift = new int[] {24, 16, 0}[rows[k].lane];
        rows[k].cells[i] = v << shift >> shift;
        return 1;
    }

    private long cell(int k, int i, int lane) {
        int refusal = rowRefusal(k, lane);
        if (refusal == 0 && lacks(rows[k], i, 1)) {
            refusal = -13;
        }
        named(refusal);
        return refusal == 0 ? rows[k].cells[i] : Long.MIN_VALUE;
    }

    private int copy(int k, int i, int other, int j, int n) {
        if (k < 0 || k > 3 || other < 0 || other > 3) {
            return -1;
        }
        if (rows[k] == null || rows[other] == null) {
            return -11;
        }
        if (rows[k].lane != rows[other].lane) {
            return -12;
        }
        if (lacks(rows[k], i, n) || lacks(rows[other], j, n)) {
            return -13;
        }
        int[] were = rows[k].cells.clone();
        for (int m = 0; m < n; m++) {
            rows[other].cells[j + m] = were[i + m];
        }
        return n;
    }

    private int tell(int body, int depth) {
        trace = trace * 31 + body + 1;
        return body == 0 ? depth : body == 1 ? tell(0, depth) + 100 : tell(1, depth) + tell(0, depth);
    }

    private int call(int h) {
        if (!isHouse(h)) {
            return -1;
        }
        boolean baby = houses.get(h).kind == 2;
        trace = trace * 31 + (baby ? 5 : 4);
        return baby ? 80 : h;
    }

    private int many(int what) {
        int[] all = {houses.size(), clocks.size(), wall, night, readings.size()};
        return what < 0 || what > 4 ? -2 : all[what];
    }
}
