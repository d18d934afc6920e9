import java.util.ArrayList;
import java.util.Arrays;
import java.util.List;

/**
 * Every way in which five can be in one another, one object for each: what the document says of all NESTINGS
 * is asked in all of them. Five beasts that like all, with room for all, so that what is due can be told from
 * the walls alone, without trying any deed.
 */
public final class EveryNestingTest {
    private static final int NONE = -1, UNSURE = -2;
    private static final int BEINGS = 5, ALL = 31;

    /** By nesting, in the order of their numbers, and by being: the one right in which it is. */
    private static final List<int[]> HOLDERS = new ArrayList<>();
    /** Beside these, by being: the walls around it, as bits. */
    private static final List<int[]> WALLS = new ArrayList<>();
    private static final List<Integer> NUMBERS = new ArrayList<>();

    public static void main(String[] args) {
        findAll();
        eachByItsNumber();
        howTheyAreIn();
        whoHearsWhom();
        soonestOfEverySet();
        togetherOfEachTwo();
        deepAndManyFromAnywhere();
        toldByEachWhatIsSo();
        backToEachByAnImage();
        Check.end();
    }

    // ---- what is due

    private static void findAll() {
        for (int number = 0; number < 7776; number++) {
            int[] holders = new int[BEINGS];
            int rest = number;
            for (int being = 0; being < BEINGS; being++) {
                holders[being] = rest % 6 - 1;
                rest /= 6;
            }
            int[] walls = new int[BEINGS];
            boolean isRing = false;
            for (int being = 0; being < BEINGS; being++) {
                walls[being] = wallsAround(holders, being);
                isRing |= (walls[being] >> being & 1) == 1;
            }
            if (!isRing) {
                HOLDERS.add(holders);
                WALLS.add(walls);
                NUMBERS.add(number);
            }
        }
        Check.due("how many ways there are for five", NUMBERS.size(), 1296);
    }

    private static int wallsAround(int[] holders, int being) {
        int walls = 0;
        int at = holders[being];
        while (at != NONE && (walls >> at & 1) == 0) {
            walls |= 1 << at;
            at = holders[at];
        }
        return walls;
    }

    /** How many walls are between two: those around one of them alone. */
    private static int between(int[] walls, int a, int b) {
        return Integer.bitCount(walls[a] ^ walls[b]);
    }

    private static int heard(int[] walls, int being) {
        int heard = 0;
        for (int other = 0; other < BEINGS; other++) {
            if (other != being && between(walls, being, other) <= 1) {
                heard |= 1 << other;
            }
        }
        return heard;
    }

    /** Those that are behind most walls are swallowed first, so that each is outside when its turn comes. */
    private static SwallowedInTurn made(int place) {
        SwallowedInTurn x = Check.beasts(BEINGS);
        int[] holders = HOLDERS.get(place);
        int done = 0;
        for (int depth = BEINGS; depth > 0; depth--) {
            for (int being = 0; being < BEINGS; being++) {
                if (Integer.bitCount(WALLS.get(place)[being]) == depth) {
                    done++;
                    Check.due("deed(" + (5 * holders[being] + being) + ") on the way to " + NUMBERS.get(place),
                            x.deed(5 * holders[being] + being), done);
                }
            }
        }
        return x;
    }

    // ---- all nestings

    private static void eachByItsNumber() {
        Check.sentence("Terms 2: the so-manieth of them (from 0), by NUMBER (each of 1296)");
        SwallowedInTurn x = Check.beasts(BEINGS);
        for (int place = 0; place < NUMBERS.size(); place++) {
            // An object has but 512 calls.
            if (place % 500 == 0) {
                x = made(place);
            }
            Check.due("nesting(" + place + ")", x.nesting(place), NUMBERS.get(place));
        }
    }

    private static void howTheyAreIn() {
        Check.sentence("Terms 1, 2: right IN, FILLED, walls, OUTSIDE, NUMBER (in every NESTING)");
        for (int place = 0; place < NUMBERS.size(); place++) {
            SwallowedInTurn x = made(place);
            int[] holders = HOLDERS.get(place);
            int outside = 0;
            for (int being = 0; being < BEINGS; being++) {
                int in = being;
                long filled = Arrays.stream(holders).filter(holder -> holder == in).count();
                aboutIs(x, being, 4, holders[being]);
                aboutIs(x, being, 5, filled);
                aboutIs(x, being, 6, Integer.bitCount(WALLS.get(place)[being]));
                outside += holders[being] == NONE ? 1 : 0;
            }
            Check.due("number()", x.number(), NUMBERS.get(place));
            Check.due("count(1) at " + NUMBERS.get(place), x.count(1), outside);
        }
    }

    private static void aboutIs(SwallowedInTurn x, int being, int what, long due) {
        Check.due("about(" + being + ", " + what + ") at " + x.number(), x.about(being, what), due);
    }

    private static void whoHearsWhom() {
        Check.sentence("Terms 3: One HEARS another one with no more than one wall between them (in every NESTING)");
        for (int place = 0; place < NUMBERS.size(); place++) {
            SwallowedInTurn x = made(place);
            for (int being = 0; being < BEINGS; being++) {
                aboutIs(x, being, 7, heard(WALLS.get(place), being));
            }
        }
    }

    // ---- by how few deeds

    /**
     * Each wall around one of a set must let out once at least, and a yawn of each is enough: so such a row is
     * one deed of each wall. A cough of one begins it if it lets out, by the greatest number, all of the set
     * that are in it.
     */
    private static void soonestOfEverySet() {
        Check.sentence("Terms 2: SOONEST for a set; of all that begin such a row the least (in every NESTING)");
        for (int place = 0; place < NUMBERS.size(); place++) {
            SwallowedInTurn x = made(place);
            for (int set = 0; set <= ALL; set++) {
                int around = 0;
                for (int being = 0; being < BEINGS; being++) {
                    around |= (set >> being & 1) == 1 ? WALLS.get(place)[being] : 0;
                }
                String at = ") at " + NUMBERS.get(place);
                Check.due("soonest(" + set + ", 0" + at, x.soonest(set, 0), Integer.bitCount(around));
                Check.due("soonest(" + set + ", 1" + at, x.soonest(set, 1), leastFirst(place, set, around));
            }
        }
    }

    private static int leastFirst(int place, int set, int around) {
        int first = NONE;
        for (int a = BEINGS - 1; a >= 0; a--) {
            if ((around >> a & 1) == 1 && !coughIsEnough(place, set, a)) {
                first = 40 + a;
            }
        }
        for (int a = BEINGS - 1; a >= 0; a--) {
            if ((around >> a & 1) == 1 && coughIsEnough(place, set, a)) {
                first = 30 + a;
            }
        }
        return first;
    }

    /** Whether all of a set that are in a are the one that it coughs, or in that. */
    private static boolean coughIsEnough(int place, int set, int a) {
        int[] holders = HOLDERS.get(place);
        int coughed = NONE;
        for (int being = 0; being < BEINGS; being++) {
            coughed = holders[being] == a ? being : coughed;
        }
        for (int being = 0; being < BEINGS; being++) {
            int walls = WALLS.get(place)[being];
            boolean isOfThem = (set >> being & 1) == 1 && (walls >> a & 1) == 1;
            if (isOfThem && being != coughed && (walls >> coughed & 1) == 0) {
                return false;
            }
        }
        return true;
    }

    /** A deed takes one wall at most from between two, or puts one there; and each of them can yawn. */
    private static void togetherOfEachTwo() {
        Check.sentence("Terms 2: TOGETHER for two (in every NESTING)");
        for (int place = 0; place < NUMBERS.size(); place++) {
            SwallowedInTurn x = made(place);
            for (int a = 0; a < BEINGS; a++) {
                for (int b = 0; b < BEINGS; b++) {
                    if (a != b) {
                        Check.due("together(" + a + ", " + b + ") at " + NUMBERS.get(place),
                                x.together(a, b), between(WALLS.get(place), a, b));
                    }
                }
            }
        }
    }

    private static void deepAndManyFromAnywhere() {
        Check.sentence("Terms 2: DEEP for one; MANY: how many NESTINGS THEY COME to (from every NESTING)");
        for (int place = 0; place < NUMBERS.size(); place++) {
            SwallowedInTurn x = made(place);
            Check.due("many() at " + NUMBERS.get(place), x.many(), 1296);
            for (int being = 0; being < BEINGS; being++) {
                Check.due("deep(" + being + ") at " + NUMBERS.get(place), x.deep(being), 4);
            }
        }
    }

    // ---- what was heard

    private static void toldByEachWhatIsSo() {
        Check.sentence("Terms 3: FITS, SURE, ASK, when four have TOLD what is so (in every NESTING)");
        int[][] heards = new int[NUMBERS.size()][BEINGS];
        for (int place = 0; place < heards.length; place++) {
            for (int being = 0; being < BEINGS; being++) {
                heards[place][being] = heard(WALLS.get(place), being);
            }
        }
        for (int place = 0; place < heards.length; place++) {
            // Not always the same four, nor in the same order.
            SwallowedInTurn x = made(place);
            List<Integer> left = new ArrayList<>();
            for (int i = 0; i < heards.length; i++) {
                left.add(i);
            }
            for (int told = 1; told <= 4; told++) {
                int teller = (place + 2 * told) % BEINGS;
                int heard = heards[place][teller];
                Check.due("told(" + teller + ", " + heard + ") at " + NUMBERS.get(place),
                        x.told(teller, x.about(teller, 7)), told);
                left.removeIf(i -> heards[i][teller] != heard);
                fitsSureAskAre(x, left, heards);
            }
        }
    }

    private static void fitsSureAskAre(SwallowedInTurn x, List<Integer> left, int[][] heards) {
        String at = " at " + x.number() + " when " + x.count(3) + " were told";
        Check.due("fits()" + at, x.fits(), left.size());
        int ask = NONE;
        int fewest = Integer.MAX_VALUE;
        for (int being = 0; being < BEINGS; being++) {
            int sure = HOLDERS.get(left.get(0))[being];
            int[] groups = new int[ALL + 1];
            for (int i : left) {
                sure = sure == HOLDERS.get(i)[being] ? sure : UNSURE;
                groups[heards[i][being]]++;
            }
            Check.due("sure(" + being + ")" + at, x.sure(being), sure);
            int most = Arrays.stream(groups).max().getAsInt();
            if (most < fewest) {
                fewest = most;
                ask = being;
            }
        }
        Check.due("ask()" + at, x.ask(), ask);
    }

    private static void backToEachByAnImage() {
        Check.sentence("Terms 3: An IMAGE keeps the NESTING (every one)");
        for (int place = 0; place < NUMBERS.size(); place++) {
            SwallowedInTurn x = made(place);
            int done = x.count(2);
            Check.due("image()", x.image(), NUMBERS.get(place));
            int steps = x.soonest(ALL, 0);
            for (int step = 0; step < steps; step++) {
                Check.does(x, x.soonest(ALL, 1));
            }
            Check.due("count(1) when they are out", x.count(1), BEINGS);
            Check.due("restore() of " + NUMBERS.get(place), x.restore(), NUMBERS.get(place));
            Check.due("number()", x.number(), NUMBERS.get(place));
            Check.due("count(2) at " + NUMBERS.get(place), x.count(2), done);
        }
    }
}
