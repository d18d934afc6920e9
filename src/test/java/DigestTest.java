/** Promise 26: the digest of all that is told. */
public final class DigestTest {
    public static void main(String[] args) {
        SwallowedInTurn x = new SwallowedInTurn();
        digestIs(x, "");
        String page = "s01,c0";
        for (int i = 0; i < 5; i++) {
            x.being((i + 3) % 5, 1 + i, 15 - i, 31 - i);
            digestIs(x, "");
        }
        Check.write(x, page);
        digestIs(x, page);
        for (int deed = 0; deed < 45; deed++) {
            if (x.deed(deed) > 0) {
                digestIs(x, page);
            }
        }
        x.told(1, 4);
        digestIs(x, page);
        x.told(0, 0);
        digestIs(x, page);
        x.blank();
        digestIs(x, "");
        Check.due("digest changes nothing", x.digest(), x.digest());
        aNewObjectsDigest();
        Check.end();
    }

    private static void digestIs(SwallowedInTurn x, String page) {
        long h = 709;
        int total = x.count(0);
        for (int being = 0; being < total; being++) {
            for (int what = 0; what <= 7; what++) {
                h = 31 * h + x.about(being, what);
            }
            h = 31 * h + x.deep(being);
        }
        int all = (1 << total) - 1;
        long[] rest = {x.number(), x.many(), x.fits(), x.ask(), x.soonest(all, 0), x.soonest(all, 1)};
        for (long it : rest) {
            h = 31 * h + it;
        }
        for (int i = 0; i < page.length(); i++) {
            h = 31 * h + page.charAt(i);
        }
        for (int what = 0; what <= 5; what++) {
            h = 31 * h + x.count(what);
        }
        Check.due("digest at " + x.number() + " of " + total, x.digest(), h);
    }

    private static void aNewObjectsDigest() {
        long h = 709;
        long[] due = {0, 1, 1, -1, 0, -1, 0, 0, 0, 0, 0, 0};
        for (long it : due) {
            h = 31 * h + it;
        }
        Check.due("digest of a new object", new SwallowedInTurn().digest(), h);
    }
}
