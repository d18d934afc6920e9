import java.util.Random;

/** All promises: long runs of calls, the class beside the model. The runs are the same each time. */
public final class ModelTest {
    private static final int RUNS = 240;
    private static final int CALLS = 150;
    /** Behind its 512th call an object answers what it likes; one step of a run makes less than 60. */
    private static final int LAST_CALL = 450;
    private static final int[] ODD = {-1, 5, 6, 7, 8, 9, 10, 20, 21, 25, 29, 31, 32, 33, 35, 45, 60, 61, 126, 127,
        Integer.MIN_VALUE, Integer.MAX_VALUE};

    private final Random random;
    private final SwallowedInTurn x = new SwallowedInTurn();
    private final Model model = new Model();
    private final StringBuilder calls = new StringBuilder();
    private int called = 0;

    private ModelTest(int run) {
        random = new Random(1000 + run);
    }

    public static void main(String[] args) {
        for (int run = 0; run < RUNS && !Check.isWrong(); run++) {
            new ModelTest(run).play(run);
        }
        Check.end();
    }

    private void play(int run) {
        int total = random.nextInt(6);
        boolean isRoomy = random.nextBoolean();
        for (int i = 0; i < total; i++) {
            comeOne(isRoomy);
        }
        for (int call = 0; call < CALLS && called < LAST_CALL; call++) {
            callOne(isRoomy);
        }
        if (Check.isWrong()) {
            System.out.println("run " + run + ":\n" + calls);
        }
    }

    /** A number below the end; now and then another. */
    private int pick(int end) {
        return random.nextInt(14) == 0 ? ODD[random.nextInt(ODD.length)] : random.nextInt(Math.max(1, end));
    }

    private void same(String call, long got, long want) {
        called++;
        if (!Check.isWrong()) {
            calls.append(call).append(" = ").append(want).append('\n');
        }
        Check.due(call, got, want);
    }

    private void comeOne(boolean isRoomy) {
        int kind = pick(5);
        int size = 1 + pick(isRoomy ? 4 : 9);
        int room = isRoomy ? 8 + pick(13) : pick(21);
        int likes = random.nextBoolean() ? 31 : pick(32);
        same("being(" + kind + ", " + size + ", " + room + ", " + likes + ")",
                x.being(kind, size, room, likes), model.being(kind, size, room, likes));
    }

    private void callOne(boolean isRoomy) {
        int choice = random.nextInt(34);
        int total = (int) model.count(0);
        if (choice < 10) {
            doOne();
        } else if (choice < 14) {
            writeOne();
        } else if (choice < 19) {
            hearOne(total);
        } else if (choice < 27) {
            askOne(choice, total);
        } else {
            tellOne(choice, total, isRoomy);
        }
    }

    private void doOne() {
        int deed = random.nextInt(12) == 0 ? pick(48) : random.nextInt(48);
        // Tries further deeds until one may be, else hardly anything would ever happen.
        for (int i = 0; i < 48 && model.may(deed) != 1 && random.nextInt(30) != 0; i++) {
            deed = (deed + 1) % 48;
        }
        same("may(" + deed + ")", x.may(deed), model.may(deed));
        same("deed(" + deed + ")", x.deed(deed), model.deed(deed));
        same("number()", x.number(), model.number());
    }

    private void writeOne() {
        if (random.nextInt(4) == 0) {
            same("blank()", x.blank(), model.blank());
            int deeds = 1 + random.nextInt(11);
            for (int i = 0; i < deeds; i++) {
                write(i == 0 ? "" : ",");
                write(random.nextInt(3) > 0 ? "s" + random.nextInt(5) + random.nextInt(5)
                        : (random.nextBoolean() ? "c" : "y") + random.nextInt(5));
            }
        }
        if (random.nextInt(4) == 0) {
            int code = random.nextBoolean() ? "scy,01234".charAt(random.nextInt(9)) : pick(130);
            same("letter(" + code + ")", x.letter(code), model.letter(code));
        }
        same("fault()", x.fault(), model.fault());
        same("tale()", x.tale(), model.tale());
    }

    private void write(String text) {
        for (char sign : text.toCharArray()) {
            same("letter(" + (int) sign + ")", x.letter(sign), model.letter(sign));
        }
    }

    private void hearOne(int total) {
        int being = pick(total);
        if (random.nextInt(5) == 0) {
            same("forget()", x.forget(), model.forget());
        } else {
            // Mostly what is so just now, so that something fits.
            int set = random.nextInt(3) > 0 ? (int) model.about(being, 7) : pick(1 << total);
            same("told(" + being + ", " + set + ")", x.told(being, set), model.told(being, set));
        }
        same("fits()", x.fits(), model.fits());
        same("sure(" + being + ")", x.sure(being), model.sure(being));
        same("ask()", x.ask(), model.ask());
    }

    private void askOne(int choice, int total) {
        int a = pick(total);
        int b = pick(total);
        int set = pick(1 << total);
        switch (choice % 4) {
            case 0:
                int what = pick(2);
                same("soonest(" + set + ", " + what + ")", x.soonest(set, what), model.soonest(set, what));
                break;
            case 1:
                same("together(" + a + ", " + b + ")", x.together(a, b), model.together(a, b));
                break;
            case 2:
                same("deep(" + a + ")", x.deep(a), model.deep(a));
                break;
            default:
                int i = pick((int) model.many() + 1);
                same("many()", x.many(), model.many());
                same("nesting(" + i + ")", x.nesting(i), model.nesting(i));
                break;
        }
    }

    private void tellOne(int choice, int total, boolean isRoomy) {
        int what = pick(9);
        int being = pick(total);
        switch (choice) {
            case 27:
                int deeds = pick(62);
                int seed = random.nextInt(9) == 0 ? pick(9) : random.nextInt(Integer.MAX_VALUE);
                same("days(" + deeds + ", " + seed + ", " + what % 4 + ")",
                        x.days(deeds, seed, what % 4), model.days(deeds, seed, what % 4));
                break;
            case 28:
                same("image()", x.image(), model.image());
                break;
            case 29:
                same("restore()", x.restore(), model.restore());
                break;
            case 30:
                same("count(" + what + ")", x.count(what), model.count(what));
                break;
            case 31:
                same("about(" + being + ", " + what + ")", x.about(being, what), model.about(being, what));
                same("as(" + being + ", " + what + ")", x.as(being, what), model.as(being, what));
                break;
            case 32:
                if (random.nextInt(6) == 0) {
                    comeOne(isRoomy);
                }
                break;
            default:
                same("digest()", x.digest(), model.digest());
                break;
        }
    }
}
