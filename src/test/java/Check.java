import java.util.Arrays;
import java.util.function.IntSupplier;

/** What the tests share: answers compared with those that are due, and the end of a test. */
final class Check {
    /** Far from every range; a product or a shift of some of them falls back into one. */
    private static final int[] FAR = {Integer.MIN_VALUE, Integer.MIN_VALUE + 1, -65536, -256, 256, 65536, 1 << 30,
        Integer.MAX_VALUE - 1, Integer.MAX_VALUE};

    private static int compared = 0;
    private static int wrong = 0;
    /** The document's words by which the answers are due, as a failure tells them. */
    private static String words = "";
    private static boolean isTested = true;

    private Check() {
    }

    static void due(String call, long got, long want) {
        compared++;
        isTested = true;
        if (got != want) {
            wrong++;
            System.out.println(words + call + " answered " + got + ", due is " + want);
        }
    }

    /** Names the document's words that the next answers test; words that nothing tests are a slip. */
    static void sentence(String sentence) {
        endSentence();
        words = sentence + " -- ";
        isTested = false;
    }

    private static void endSentence() {
        if (!isTested) {
            wrong++;
            System.out.println(words + "nothing tests it");
        }
        words = "";
        isTested = true;
    }

    /** The answer of a refused call, and that it changed nothing. */
    static void refused(SwallowedInTurn x, String call, IntSupplier answer, int want) {
        long before = x.digest();
        due(call, answer.getAsInt(), want);
        due(call + " changed nothing: digest()", x.digest(), before);
    }

    /** The last value below a range and the first above it, and far ones. */
    static int[] around(int below, int above) {
        int[] outs = Arrays.copyOf(FAR, FAR.length + 2);
        outs[FAR.length] = below;
        outs[FAR.length + 1] = above;
        return outs;
    }

    static boolean isWrong() {
        return wrong != 0;
    }

    /** Ends the program with exit code 1 if an answer was wrong, or if nothing was asked. */
    static void end() {
        endSentence();
        System.out.println(compared + " answers, " + wrong + " of them not as due");
        if (wrong != 0 || compared == 0) {
            System.exit(1);
        }
    }

    static void write(SwallowedInTurn x, String text) {
        for (int i = 0; i < text.length(); i++) {
            x.letter(text.charAt(i));
        }
    }

    /** So many beings that swallow each other as they like. */
    static SwallowedInTurn beasts(int total) {
        SwallowedInTurn x = new SwallowedInTurn();
        for (int i = 0; i < total; i++) {
            x.being(1, 1, 20, 31);
        }
        return x;
    }

    /** Beings, each told by four numbers: kind, size, room, likes. */
    static SwallowedInTurn beings(int... fours) {
        SwallowedInTurn x = new SwallowedInTurn();
        for (int i = 0; i + 3 < fours.length; i += 4) {
            x.being(fours[i], fours[i + 1], fours[i + 2], fours[i + 3]);
        }
        return x;
    }

    /** Beasts, 1 in 0, 2 in 1, and so on. */
    static SwallowedInTurn chain(int total) {
        SwallowedInTurn x = beasts(total);
        for (int outer = total - 2; outer >= 0; outer--) {
            does(x, 5 * outer + outer + 1);
        }
        return x;
    }

    /** Deeds that set a test's scene: each must have been done. */
    static void does(SwallowedInTurn x, int... deeds) {
        for (int deed : deeds) {
            int done = x.count(2);
            due("deed(" + deed + ") at " + x.number(), x.deed(deed), done + 1);
        }
    }
}
