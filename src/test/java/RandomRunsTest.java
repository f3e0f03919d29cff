import java.lang.reflect.Method;
import java.lang.reflect.Modifier;
import java.util.ArrayList;
import java.util.Arrays;
import java.util.Comparator;
import java.util.List;
import java.util.Random;

/** Runs of up to 512 calls, the same ones each time, whose answers are compared with those of the model. */
final class RandomRunsTest {
    private static final int RUNS = 3000;
    private static final int[] EXTREMES = {Integer.MIN_VALUE, Integer.MIN_VALUE + 1, -129, -1, 60, 61, 255, 65536, Integer.MAX_VALUE - 1, Integer.MAX_VALUE};

    private final Random random;
    private final ClockWakers x = new ClockWakers();
    private final Model model = new Model();
    private final List<Method> calls;
    private final List<String> told = new ArrayList<>();

    private RandomRunsTest(long seed, List<Method> calls) {
        random = new Random(seed);
        this.calls = calls;
    }

    public static void main(String[] args) throws Exception {
        List<Method> calls = new ArrayList<>();
        for (Method m : ClockWakers.class.getDeclaredMethods()) {
            if (Modifier.isPublic(m.getModifiers())) {
                calls.add(m);
            }
        }
        calls.sort(Comparator.comparing(Method::getName));
        if (calls.size() != 36) {
            System.out.println("the face has " + calls.size() + " methods, not 36");
            System.exit(1);
        }
        for (int run = 0; run < RUNS; run++) {
            new RandomRunsTest(run, calls).run(run);
        }
        System.out.println(RUNS + " random runs are as the model's");
    }

    private void run(int run) throws Exception {
        while (told.size() < 512 - 70) {
            int dice = random.nextInt(40);
            if (dice == 0 || told.isEmpty() && run % 8 != 0) {
                writeStreet();
            } else if (dice <= 2) {
                writeSeason();
            } else {
                Method m = calls.get(random.nextInt(calls.size()));
                int[] a = new int[m.getParameterCount()];
                for (int k = 0; k < a.length; k++) {
                    a[k] = number();
                }
                ask(m, a);
            }
        }
        for (int what = 0; what <= 4; what++) {
            ask("many", what);
        }
        for (int h = 0; h < 6; h++) {
            ask("ofHouse", h, 3);
        }
    }

    private int number() {
        int dice = random.nextInt(50);
        return dice == 0 ? EXTREMES[random.nextInt(EXTREMES.length)] : dice < 5 ? random.nextInt(20) - 4 : random.nextInt(dice < 30 ? 3 : 6);
    }

    private String text() {
        StringBuilder b = new StringBuilder("c").append(random.nextInt(4));
        int houses = 2 + random.nextInt(5);
        for (int k = 0; k < houses; k++) {
            b.append(';').append("snb".charAt(random.nextInt(3))).append(1 + random.nextInt(9));
        }
        int clocks = 1 + random.nextInt(4);
        for (int k = 0; k < clocks; k++) {
            b.append(',').append(1 + random.nextInt(9)).append(random.nextInt(houses));
        }
        if (random.nextInt(4) == 0) {
            b.setCharAt(random.nextInt(b.length()), "cnsb;,0123456789x".charAt(random.nextInt(17)));
        }
        if (random.nextInt(6) == 0) {
            b.setLength(random.nextInt(b.length() + 1));
        }
        if (random.nextInt(6) == 0) {
            b.insert(random.nextInt(b.length() + 1), ";s5,51".substring(random.nextInt(2) * 3).substring(0, 3));
        }
        return b.toString();
    }

    private void writeStreet() throws Exception {
        String text = text();
        int k = random.nextInt(4);
        int lane = random.nextInt(3);
        int i = random.nextInt(3);
        ask("sheet", k, lane, text.length() + i);
        for (int j = 0; j < text.length(); j++) {
            ask("put", k, i + j, text.charAt(j));
        }
        ask("street", k, lane, i, text.length());
    }

    private void writeSeason() throws Exception {
        int n = random.nextInt(12);
        int k = random.nextInt(4);
        int lane = random.nextInt(3);
        ask("sheet", k, lane, 2 * n);
        for (int j = 0; j < n; j++) {
            int act = random.nextInt(8) < 4 ? random.nextInt(4) : 10 + random.nextInt(2);
            ask("put", k, 2 * j, random.nextInt(30) == 0 ? number() : random.nextInt(2));
            ask("put", k, 2 * j + 1, random.nextInt(40) == 0 ? number() : act);
        }
        for (int what : new int[] {0, 1, 2, 3, 4, 10, 11, 12, 13}) {
            ask("season", k, lane, 0, n, what);
        }
    }

    private void ask(String name, int... a) throws Exception {
        for (Method m : calls) {
            if (m.getName().equals(name)) {
                ask(m, a);
            }
        }
    }

    private void ask(Method m, int[] a) throws Exception {
        Object[] boxed = new Object[a.length];
        for (int k = 0; k < a.length; k++) {
            boxed[k] = a[k];
        }
        told.add(m.getName() + Arrays.toString(a));
        long got = ((Number) m.invoke(x, boxed)).longValue();
        long want = model.answer(m.getName(), a);
        if (got != want) {
            told.forEach(System.out::println);
            System.out.println("answered " + got + ", the model says " + want);
            System.exit(1);
        }
    }
}
