/** What the tests share: answers compared with those that are due, and the end of a test. */
final class Check {
    private static int compared = 0;
    private static int wrong = 0;

    private Check() {
    }

    static void due(String call, long got, long want) {
        compared++;
        if (got != want) {
            wrong++;
            System.out.println(call + " answered " + got + ", due is " + want);
        }
    }

    static boolean isWrong() {
        return wrong != 0;
    }

    /** Ends the program with exit code 1 if an answer was wrong, or if nothing was asked. */
    static void end() {
        System.out.println(compared + " answers, " + wrong + " of them not as due");
        if (wrong != 0 || compared == 0) {
            System.exit(1);
        }
    }

    static void write(SwallowedInTurn x, String text) {
        for (int i = 0; i < text.length(); i++) {
            x.letter(text.charAt(i));
        }
    }

    /** So many beings that swallow each other as they like. */
    static SwallowedInTurn beasts(int total) {
        SwallowedInTurn x = new SwallowedInTurn();
        for (int i = 0; i < total; i++) {
            x.being(1, 1, 20, 31);
        }
        return x;
    }
}
