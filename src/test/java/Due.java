/** What the project's tests share: answers that are due, and streets and rows written onto sheets. */
final class Due {
    /** The street of the document's own tests: wall 1, five houses, three clocks. */
    static final String FIVE = "c1;s5;n4;b6;s9;n1,92,50,74";
    static final int NULL = -11, CAST = -12, INDEX = -13, SIZE = -14;
    static final int MIN = Integer.MIN_VALUE, MAX = Integer.MAX_VALUE;
    static final long LOST = Long.MIN_VALUE;

    private static final int PROMISES = 37;
    private static final boolean[] named = new boolean[PROMISES + 1];
    private static String sentence = "";
    private static int wrong = 0;
    private static int asked = 0;

    private Due() {
    }

    /** What is due from here on is due by this sentence: of the promise, or of the terms that its call rests on. */
    static void promise(int number, String itsSentence) {
        named[number] = true;
        sentence = "promise " + number + " (" + itsSentence + "): ";
    }

    static void due(String call, long got, long want) {
        asked++;
        if (got != want) {
            wrong++;
            System.out.println(sentence + call + " answered " + got + ", due is " + want);
        }
    }

    /** Each of several answers is due to be the same one. */
    static void all(String calls, long want, long... got) {
        for (int k = 0; k < got.length; k++) {
            due(calls + " [" + k + "]", got[k], want);
        }
    }

    static void end() {
        System.out.println(asked + " answers, " + wrong + " not as due");
        if (wrong != 0) {
            System.exit(1);
        }
    }

    /** The end of a test that has to name each of these promises. */
    static void endOf(int firstPromise, int lastPromise) {
        for (int k = firstPromise; k <= lastPromise; k++) {
            if (!named[k]) {
                wrong++;
                System.out.println("promise " + k + " is not tested");
            }
        }
        end();
    }

    static void write(ClockWakers x, int k, int lane, int... cells) {
        due("sheet", x.sheet(k, lane, cells.length), 1);
        for (int i = 0; i < cells.length; i++) {
            due("put", x.put(k, i, cells[i]), 1);
        }
    }

    static int[] codes(String text) {
        int[] codes = new int[text.length()];
        for (int i = 0; i < codes.length; i++) {
            codes[i] = text.charAt(i);
        }
        return codes;
    }

    static int read(ClockWakers x, String text) {
        write(x, 3, 0, codes(text));
        return x.street(3, 0, 0, text.length());
    }

    static ClockWakers street(String text) {
        ClockWakers x = new ClockWakers();
        int clocks = read(x, text);
        if (clocks < 1) {
            due("street of " + text, clocks, 1);
        }
        return x;
    }

    /** A season of pairs on sheet 0, asked for what. */
    static int season(ClockWakers x, int what, int... pairs) {
        write(x, 0, 2, pairs);
        return x.season(0, 2, 0, pairs.length / 2, what);
    }
}
