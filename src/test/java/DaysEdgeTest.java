import java.math.BigInteger;

/** The boundary cases of "DAYS by a SEED" and of promise 22; each method tests one sentence. */
public final class DaysEdgeTest {
    private static final int OUTSIDE = -102;
    private static final int BEING = 0, BEAST = 1, FISH = 2;
    private static final BigInteger FACTOR = BigInteger.valueOf(1103515245);
    private static final BigInteger TERM = BigInteger.valueOf(12345);
    private static final BigInteger END = BigInteger.ONE.shiftLeft(31);

    public static void main(String[] args) {
        deedsFromOneToSixty();
        seedZeroAtLeast();
        whatFromZeroToTwo();
        severalAreOutside();
        theNextSeedEachTime();
        theSeedsRestByTwoToTheThirtyOne();
        theDrawIsRoundedDown();
        theDrawsRest();
        theDrawOfTwenty();
        aDrawOfHowManyThereAreThen();
        aDrawOfOne();
        itEndsIfThereIsNone();
        itIsButAsItWouldBe();
        fromWhereTheyAre();
        Check.end();
    }

    private static int next(int seed) {
        return FACTOR.multiply(BigInteger.valueOf(seed)).add(TERM).mod(END).intValue();
    }

    /** The seed behind which this one comes. */
    private static int seedAhead(int next) {
        return BigInteger.valueOf(next).subtract(TERM).multiply(FACTOR.modInverse(END)).mod(END).intValue();
    }

    private static void deedsFromOneToSixty() {
        Check.sentence("22 days: OUTSIDE: deeds (1 to 60)");
        SwallowedInTurn x = Check.beasts(3);
        int seed = 709;
        for (int deeds = 1; deeds <= 60; deeds++) {
            seed = next(seed);
            Check.due("days(" + deeds + ", 709, 1)", x.days(deeds, 709, 1), deeds);
            Check.due("days(" + deeds + ", 709, 2)", x.days(deeds, 709, 2), seed);
        }
        for (int deeds : Check.around(0, 61)) {
            Check.refused(x, "days(" + deeds + ", 709, 1)", () -> x.days(deeds, 709, 1), OUTSIDE);
        }
    }

    private static void seedZeroAtLeast() {
        Check.sentence("22 days: OUTSIDE: seed (0 at least)");
        SwallowedInTurn x = Check.beasts(3);
        int[] seeds = {0, 1, 65535, 65536, Integer.MAX_VALUE - 1, Integer.MAX_VALUE};
        for (int seed : seeds) {
            Check.due("days(1, " + seed + ", 1)", x.days(1, seed, 1), 1);
        }
        int[] wrong = {-1, -2, -65536, Integer.MIN_VALUE + 1, Integer.MIN_VALUE};
        for (int seed : wrong) {
            for (int what = 0; what <= 2; what++) {
                int told = what;
                Check.refused(x, "days(1, " + seed + ", " + what + ")", () -> x.days(1, seed, told), OUTSIDE);
            }
        }
    }

    private static void whatFromZeroToTwo() {
        Check.sentence("22 days: what = 0 NUMBER then, 1 how many DEEDS were done, 2 the SEED then; OUTSIDE: what");
        SwallowedInTurn x = Check.beasts(2);
        // The draw is 0, so that 0 swallows 1.
        Check.due("days(1, 0, 0)", x.days(1, 0, 0), 6);
        Check.due("days(1, 0, 1)", x.days(1, 0, 1), 1);
        Check.due("days(1, 0, 2)", x.days(1, 0, 2), 12345);
        for (int what : Check.around(-1, 3)) {
            Check.refused(x, "days(1, 0, " + what + ")", () -> x.days(1, 0, what), OUTSIDE);
        }
    }

    private static void severalAreOutside() {
        Check.sentence("22 days: OUTSIDE: deeds, seed, what (several)");
        SwallowedInTurn none = new SwallowedInTurn();
        Check.refused(none, "days(0, -1, 3)", () -> none.days(0, -1, 3), OUTSIDE);
        Check.refused(none, "days(61, 0, 0) of none", () -> none.days(61, 0, 0), OUTSIDE);
        Check.refused(none, "days(1, -1, 0) of none", () -> none.days(1, -1, 0), OUTSIDE);
        Check.refused(none, "days(1, 0, 3) of none", () -> none.days(1, 0, 3), OUTSIDE);
        Check.refused(none, "days of MIN alone",
                () -> none.days(Integer.MIN_VALUE, Integer.MIN_VALUE, Integer.MIN_VALUE), OUTSIDE);
        Check.refused(none, "days of MAX alone",
                () -> none.days(Integer.MAX_VALUE, Integer.MAX_VALUE, Integer.MAX_VALUE), OUTSIDE);
    }

    // ---- DRAWS

    private static void theNextSeedEachTime() {
        Check.sentence("Terms 3: DRAWS: the next SEED each time: 1103515245 times it and 12345");
        SwallowedInTurn x = Check.beasts(2);
        int[] seeds = {0, 1, 2, 3, 12345, 65536, 1 << 30, Integer.MAX_VALUE};
        for (int seed : seeds) {
            int then = seed;
            for (int deeds = 1; deeds <= 4; deeds++) {
                then = next(then);
                Check.due("days(" + deeds + ", " + seed + ", 2)", x.days(deeds, seed, 2), then);
            }
        }
    }

    private static void theSeedsRestByTwoToTheThirtyOne() {
        Check.sentence("Terms 3: its rest by 2 to the 31 (the wrap-around)");
        SwallowedInTurn x = Check.beasts(2);
        int[] nexts = {0, 1, 2, 65535, 1 << 30, Integer.MAX_VALUE - 1, Integer.MAX_VALUE};
        for (int due : nexts) {
            int seed = seedAhead(due);
            Check.due("days(1, " + seed + ", 2)", x.days(1, seed, 2), due);
        }
        // 1103515245 times 1 and 12345 is less than 2 to the 31; times 2 it is more.
        Check.due("days(1, 1, 2)", x.days(1, 1, 2), 1103527590);
        Check.due("days(1, 2, 2)", x.days(1, 2, 2), (int) (2207030490L + 12345L - 2147483648L));
        Check.due("days(1, MAX, 2)", x.days(1, Integer.MAX_VALUE, 2), 2147483648L - 1103515245L + 12345L);
    }

    private static void theDrawIsRoundedDown() {
        Check.sentence("Terms 3: then that by 65536 (rounded down)");
        // Of two that may be, deeds 1 and 5, the first by an even draw: then 1 is in 0, else 0 in 1.
        int[][] nextsAndNumbers = {{0, 6}, {65535, 6}, {65536, 2}, {131071, 2}, {131072, 6}, {196607, 6}, {196608, 2},
            {Integer.MAX_VALUE, 2}, {Integer.MAX_VALUE - 65535, 2}, {Integer.MAX_VALUE - 65536, 6}};
        SwallowedInTurn x = Check.beasts(2);
        for (int[] n : nextsAndNumbers) {
            int seed = seedAhead(n[0]);
            Check.due("days(1, " + seed + ", 0), the next seed is " + n[0], x.days(1, seed, 0), n[1]);
        }
    }

    private static void theDrawsRest() {
        Check.sentence("Terms 3: .. its rest; by a DRAW of how many there are");
        // Of three: deeds 1, 2, 5, 7, 10, 11.
        int[] numbers = {6, 36, 2, 72, 3, 18};
        SwallowedInTurn x = Check.beasts(3);
        for (int draw = 0; draw <= 12; draw++) {
            int seed = seedAhead(draw << 16);
            Check.due("days(1, " + seed + ", 0), the draw is " + draw, x.days(1, seed, 0), numbers[draw % 6]);
        }
        int most = seedAhead(Integer.MAX_VALUE);
        Check.due("days(1, " + most + ", 0), the draw is 32767", x.days(1, most, 0), numbers[32767 % 6]);
    }

    private static void theDrawOfTwenty() {
        Check.sentence("Terms 3: so many DEEDS of those that MAY be (by number)");
        SwallowedInTurn x = Check.beasts(5);
        Check.due("count(5)", x.count(5), 20);
        int[] worth = {1, 6, 36, 216, 1296};
        int draw = 0;
        for (int a = 0; a < 5; a++) {
            for (int b = 0; b < 5; b++) {
                if (a != b) {
                    int seed = seedAhead(draw << 16);
                    Check.due("days(1, " + seed + ", 0), the draw is " + draw, x.days(1, seed, 0), (a + 1) * worth[b]);
                    draw++;
                }
            }
        }
        int seed = seedAhead(20 << 16);
        Check.due("days(1, " + seed + ", 0), the draw is 20", x.days(1, seed, 0), 6);
        // 0 is in 1, with 2 outside: 1 swallows it, coughs or yawns.
        SwallowedInTurn in = Check.beings(BEING, 1, 0, 0, BEAST, 1, 9, 1, BEING, 1, 0, 0);
        Check.does(in, 5);
        Check.due("count(5): deeds 7, 31, 41", in.count(5), 3);
        int[] numbers = {2 + 2 * 36, 0, 0};
        for (int i = 0; i < 3; i++) {
            int ahead = seedAhead(i << 16);
            Check.due("days(1, " + ahead + ", 0), the draw is " + i, in.days(1, ahead, 0), numbers[i]);
        }
    }

    private static void aDrawOfHowManyThereAreThen() {
        Check.sentence("Terms 3: by a DRAW of how many there are (more, or less, from deed to deed)");
        for (int first = 0; first < 20; first++) {
            SwallowedInTurn x = Check.beasts(5);
            SwallowedInTurn lived = Check.beasts(5);
            int start = seedAhead(first << 16);
            int seed = start;
            for (int deeds = 1; deeds <= 5; deeds++) {
                seed = next(seed);
                Check.does(lived, allowed(lived, (seed >> 16) % lived.count(5)));
                Check.due("days(" + deeds + ", " + start + ", 0)", x.days(deeds, start, 0), lived.number());
            }
        }
    }

    /** The so-manieth deed that may be. */
    private static int allowed(SwallowedInTurn x, int place) {
        int left = place;
        for (int deed = 0; deed <= 44; deed++) {
            if (x.may(deed) == 1 && left-- == 0) {
                return deed;
            }
        }
        return -1;
    }

    private static void aDrawOfOne() {
        Check.sentence("Terms 3: by a DRAW of how many there are (one)");
        SwallowedInTurn x = Check.beings(FISH, 1, 9, 1, BEING, 1, 0, 0);
        int seed = 5;
        for (int deeds = 1; deeds <= 60; deeds++) {
            seed = next(seed);
            Check.due("days(" + deeds + ", 5, 0)", x.days(deeds, 5, 0), deeds % 2 == 1 ? 6 : 0);
            Check.due("days(" + deeds + ", 5, 2)", x.days(deeds, 5, 2), seed);
        }
    }

    private static void itEndsIfThereIsNone() {
        Check.sentence("Terms 3: it ends, if there is none");
        SwallowedInTurn[] still = {new SwallowedInTurn(), Check.beasts(1), Check.beings(BEAST, 1, 9, 0, BEING, 1, 9, 31)};
        int[] seeds = {0, 7, Integer.MAX_VALUE};
        for (SwallowedInTurn x : still) {
            for (int seed : seeds) {
                Check.due("days(1, " + seed + ", 1) of " + x.count(0), x.days(1, seed, 1), 0);
                Check.due("days(60, " + seed + ", 1) of " + x.count(0), x.days(60, seed, 1), 0);
                Check.due("days(60, " + seed + ", 2) of " + x.count(0), x.days(60, seed, 2), seed);
                Check.due("days(60, " + seed + ", 0) of " + x.count(0), x.days(60, seed, 0), 0);
            }
        }
    }

    private static void itIsButAsItWouldBe() {
        Check.sentence("Terms 3: DAYS by a SEED, as they would be");
        SwallowedInTurn x = Check.chain(4);
        long before = x.digest();
        for (int what = 0; what <= 2; what++) {
            int first = x.days(60, 99, what);
            Check.due("days(60, 99, " + what + ") again", x.days(60, 99, what), first);
        }
        Check.due("digest() after days", x.digest(), before);
    }

    private static void fromWhereTheyAre() {
        Check.sentence("22 days: NUMBER then (from where they are)");
        SwallowedInTurn x = Check.beings(FISH, 1, 9, 1, BEING, 1, 0, 0);
        Check.due("days(1, 5, 0)", x.days(1, 5, 0), 6);
        Check.does(x, 1);
        Check.due("days(1, 5, 0) when 1 is in 0", x.days(1, 5, 0), 0);
        Check.due("days(2, 5, 0) when 1 is in 0", x.days(2, 5, 0), 6);
        Check.due("days(2, 5, 1) when 1 is in 0", x.days(2, 5, 1), 2);
    }
}
