import java.util.Arrays;

/** Compares answers with those that are due, and ends a test with exit code 1 if one differed. */
final class Due {
    static final long LEAST = Long.MIN_VALUE;
    static final long LONG_CAST = LEAST + 1;

    private static String sentence = "";
    private static int asked;
    private static int wrong;

    private Due() {
    }

    static long failed(int number) {
        return LEAST + 10 + number;
    }

    /** The document's words that the answers from here on are held against. */
    static void sentence(String words) {
        sentence = "[" + words + "] ";
    }

    static void is(String call, long got, long want) {
        asked++;
        if (got != want) {
            wrong++;
            System.out.println(sentence + call + " answered " + got + ", due is " + want);
        }
    }

    /** The whole trace, its count, and that there is nothing on either side of it. */
    static void trace(String call, FerryDecks ferry, int... want) {
        int[] got = new int[ferry.count(1)];
        for (int i = 0; i < got.length; i++) {
            got[i] = ferry.trace(i);
        }
        asked++;
        if (!Arrays.equals(got, want)) {
            wrong++;
            System.out.println(sentence + call + " left the trace " + Arrays.toString(got)
                    + ", due is " + Arrays.toString(want));
        }
        is(call + ", trace(-1)", ferry.trace(-1), FerryDecks.BAD);
        is(call + ", trace(count)", ferry.trace(got.length), FerryDecks.BAD);
    }

    static void end() {
        System.out.println(asked + " answers, " + wrong + " not as due");
        if (wrong != 0) {
            System.exit(1);
        }
    }
}
