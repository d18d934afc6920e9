import java.util.ArrayList;
import java.util.Arrays;
import java.util.Comparator;
import java.util.HashMap;
import java.util.LinkedHashMap;
import java.util.List;
import java.util.Map;
import java.util.TreeMap;
import java.util.TreeSet;
import java.util.regex.Matcher;
import java.util.regex.Pattern;

/**
 * The document once more, by other ways than the class: maps and sets made anew for each answer.
 * Where both agree on many runs, a slip would have to be in both.
 */
final class Model {
    private static final int UNKNOWN = -101, OUTSIDE = -102, STATE = -103, FULL = -104;
    private static final String DEED = "(?:s[0-4][0-4]|[cy][0-4])";
    private static final Pattern DEEDS = Pattern.compile(DEED + "(?:," + DEED + "){0,9}", Pattern.DOTALL);
    private static final List<TreeSet<Integer>> KINDS_OF_ONE = List.of(
            setOf(0), setOf(0, 1), setOf(0, 1, 2), setOf(0, 1, 3), setOf(0, 1, 2, 4));

    private final List<int[]> beings = new ArrayList<>();
    private List<Integer> in = new ArrayList<>();
    private int done = 0;
    private List<int[]> told = new ArrayList<>();
    private String page = "";
    private List<Integer> keptIn = null;
    private List<int[]> keptTold = null;
    private int keptDone = 0;

    private static TreeSet<Integer> setOf(Integer... numbers) {
        return new TreeSet<>(Arrays.asList(numbers));
    }

    private boolean isThere(int being) {
        return being >= 0 && being < beings.size();
    }

    // ---- the text

    long letter(int code) {
        if (code < 1 || code > 126) {
            return OUTSIDE;
        }
        if (page.length() == 40) {
            return FULL;
        }
        page += (char) code;
        return page.length();
    }

    long blank() {
        int length = page.length();
        page = "";
        return length;
    }

    long fault() {
        for (int end = 1; end <= page.length(); end++) {
            Matcher m = DEEDS.matcher(page.substring(0, end));
            if (!m.matches() && !m.hitEnd()) {
                return end - 1;
            }
        }
        return page.length();
    }

    long tale() {
        if (!DEEDS.matcher(page).matches()) {
            return STATE;
        }
        List<Integer> at = in;
        int count = 0;
        for (String word : page.split(",")) {
            int last = word.charAt(word.length() - 1) - '0';
            int deed = word.charAt(0) == 's' ? 5 * (word.charAt(1) - '0') + last
                    : word.charAt(0) == 'c' ? 30 + last : 40 + last;
            List<Integer> then = after(at, deed);
            if (then == null) {
                return count;
            }
            at = then;
            count++;
        }
        return count;
    }

    // ---- the beings

    long being(int kind, int size, int room, int likes) {
        if (kind < 0 || kind > 4 || size < 1 || size > 9 || room < 0 || room > 20 || likes < 0 || likes > 31) {
            return OUTSIDE;
        }
        if (beings.size() == 5) {
            return FULL;
        }
        beings.add(new int[] {kind, size, room, likes});
        in = new ArrayList<>(in);
        in.add(-1);
        return beings.size() - 1;
    }

    private List<Integer> around(List<Integer> at, int being) {
        List<Integer> walls = new ArrayList<>();
        for (int wall = at.get(being); wall != -1; wall = at.get(wall)) {
            walls.add(wall);
        }
        return walls;
    }

    private int filled(List<Integer> at, int being) {
        int sum = 0;
        for (int other : inside(at, being)) {
            sum += beings.get(other)[1];
        }
        return sum;
    }

    private List<Integer> inside(List<Integer> at, int being) {
        List<Integer> inside = new ArrayList<>();
        for (int other = 0; other < at.size(); other++) {
            if (at.get(other) == being) {
                inside.add(other);
            }
        }
        return inside;
    }

    /** The walls between two are those that are around one of them alone. */
    private int heard(List<Integer> at, int being) {
        int set = 0;
        for (int other = 0; other < at.size(); other++) {
            TreeSet<Integer> between = new TreeSet<>(around(at, being));
            List<Integer> others = around(at, other);
            for (int wall : others) {
                if (!between.remove(wall)) {
                    between.add(wall);
                }
            }
            if (other != being && between.size() <= 1) {
                set += 1 << other;
            }
        }
        return set;
    }

    long about(int being, int what) {
        if (!isThere(being)) {
            return UNKNOWN;
        }
        if (what < 0 || what > 7) {
            return OUTSIDE;
        }
        if (what < 4) {
            return beings.get(being)[what];
        }
        return what == 4 ? in.get(being) : what == 5 ? filled(in, being)
                : what == 6 ? around(in, being).size() : heard(in, being);
    }

    long as(int being, int kind) {
        if (!isThere(being)) {
            return UNKNOWN;
        }
        if (kind < 0 || kind > 4) {
            return OUTSIDE;
        }
        return KINDS_OF_ONE.get(beings.get(being)[0]).contains(kind) ? being : -1;
    }

    private boolean isUnknown(int deed) {
        if (deed >= 0 && deed < 25) {
            return !isThere(deed / 5) || !isThere(deed % 5);
        }
        return deed < 30 || deed > 44 || deed % 10 > 4 || !isThere(deed % 10);
    }

    /** Where all are after a deed; null: it may not be, or names nothing. */
    private List<Integer> after(List<Integer> at, int deed) {
        if (isUnknown(deed)) {
            return null;
        }
        return deed < 25 ? afterSwallow(at, deed / 5, deed % 5) : afterLetting(at, deed % 10, deed >= 40);
    }

    private List<Integer> afterSwallow(List<Integer> at, int a, int b) {
        int[] eater = beings.get(a);
        int[] eaten = beings.get(b);
        boolean isBeast = KINDS_OF_ONE.get(eater[0]).contains(1);
        boolean likes = Integer.toBinaryString(eater[3] + 32).charAt(5 - eaten[0]) == '1';
        boolean isFull = eaten[2] != 0 && filled(at, b) == eaten[2];
        if (a == b || !isBeast || !likes || isFull || !at.get(a).equals(at.get(b))
                || filled(at, a) + eaten[1] > eater[2]) {
            return null;
        }
        List<Integer> then = new ArrayList<>(at);
        then.set(b, a);
        return then;
    }

    private List<Integer> afterLetting(List<Integer> at, int a, boolean isYawn) {
        int kind = beings.get(a)[0];
        List<Integer> out = inside(at, a);
        out.sort(Comparator.reverseOrder());
        if (out.isEmpty() || isYawn && (kind == 2 || kind == 4)) {
            return null;
        }
        if (!isYawn) {
            out = out.subList(0, Math.min(out.size(), kind == 3 ? 2 : 1));
        }
        int to = at.get(a);
        List<Integer> then = new ArrayList<>(at);
        for (int being : out) {
            then.set(being, to);
        }
        return to != -1 && filled(then, to) > beings.get(to)[2] ? null : then;
    }

    private List<Integer> allowed(List<Integer> at) {
        List<Integer> deeds = new ArrayList<>();
        for (int deed = 0; deed < 45; deed++) {
            if (after(at, deed) != null) {
                deeds.add(deed);
            }
        }
        return deeds;
    }

    private static long numberOf(List<Integer> at) {
        long number = 0;
        long worth = 1;
        for (int holder : at) {
            number += worth * (holder + 1);
            worth *= 6;
        }
        return number;
    }

    long may(int deed) {
        return isUnknown(deed) ? UNKNOWN : after(in, deed) == null ? 0 : 1;
    }

    long deed(int deed) {
        if (isUnknown(deed)) {
            return UNKNOWN;
        }
        List<Integer> then = after(in, deed);
        if (then == null) {
            return STATE;
        }
        in = then;
        return ++done;
    }

    long number() {
        return numberOf(in);
    }

    // ---- what would be

    private final Map<List<Integer>, Map<List<Integer>, Integer>> seen = new HashMap<>();

    /** All nestings that can come from one, with by how few deeds, the nearest first. */
    private Map<List<Integer>, Integer> reach(List<Integer> from) {
        if (seen.containsKey(from)) {
            return seen.get(from);
        }
        Map<List<Integer>, Integer> steps = new LinkedHashMap<>();
        steps.put(from, 0);
        List<List<Integer>> wave = List.of(from);
        for (int step = 1; !wave.isEmpty(); step++) {
            List<List<Integer>> nextWave = new ArrayList<>();
            for (List<Integer> at : wave) {
                for (int deed : allowed(at)) {
                    List<Integer> then = after(at, deed);
                    if (steps.putIfAbsent(then, step) == null) {
                        nextWave.add(then);
                    }
                }
            }
            wave = nextWave;
        }
        seen.put(from, steps);
        return steps;
    }

    private int stepsOut(List<Integer> from, int set) {
        for (Map.Entry<List<Integer>, Integer> e : reach(from).entrySet()) {
            boolean areOut = true;
            for (int being = 0; being < beings.size(); being++) {
                areOut &= (set & 1 << being) == 0 || e.getKey().get(being) == -1;
            }
            if (areOut) {
                return e.getValue();
            }
        }
        return -1;
    }

    long soonest(int set, int what) {
        if (set < 0 || set >= 1 << beings.size() || what < 0 || what > 1) {
            return OUTSIDE;
        }
        int fewest = stepsOut(in, set);
        if (what == 0) {
            return fewest;
        }
        for (int deed : allowed(in)) {
            if (fewest > 0 && stepsOut(after(in, deed), set) == fewest - 1) {
                return deed;
            }
        }
        return -1;
    }

    long together(int a, int b) {
        if (!isThere(a) || !isThere(b) || a == b) {
            return UNKNOWN;
        }
        for (Map.Entry<List<Integer>, Integer> e : reach(in).entrySet()) {
            if (e.getKey().get(a).equals(e.getKey().get(b))) {
                return e.getValue();
            }
        }
        return -1;
    }

    long deep(int being) {
        if (!isThere(being)) {
            return UNKNOWN;
        }
        return reach(in).keySet().stream().mapToInt(at -> around(at, being).size()).max().orElse(-1);
    }

    long many() {
        return reach(in).size();
    }

    long nesting(int i) {
        if (i < 0 || i >= many()) {
            return OUTSIDE;
        }
        return reach(in).keySet().stream().mapToLong(Model::numberOf).sorted().skip(i).findFirst().orElse(-1);
    }

    // ---- what was heard

    long told(int being, int set) {
        if (!isThere(being)) {
            return UNKNOWN;
        }
        if (set < 0 || set >= 1 << beings.size()) {
            return OUTSIDE;
        }
        if (told.size() == 4) {
            return FULL;
        }
        told.add(new int[] {being, set});
        return told.size();
    }

    long forget() {
        int size = told.size();
        told = new ArrayList<>();
        return size;
    }

    private List<List<Integer>> fitting() {
        List<List<Integer>> fitting = new ArrayList<>(reach(in).keySet());
        fitting.removeIf(at -> told.stream().anyMatch(t -> heard(at, t[0]) != t[1]));
        return fitting;
    }

    long fits() {
        return fitting().size();
    }

    long sure(int being) {
        if (!isThere(being)) {
            return UNKNOWN;
        }
        TreeSet<Integer> holders = new TreeSet<>();
        fitting().forEach(at -> holders.add(at.get(being)));
        return holders.size() == 1 ? holders.first() : -2;
    }

    long ask() {
        List<List<Integer>> fitting = fitting();
        if (fitting.isEmpty() || beings.isEmpty()) {
            return -1;
        }
        TreeMap<Integer, Integer> leastByMost = new TreeMap<>();
        for (int being = 0; being < beings.size(); being++) {
            Map<Integer, Integer> groups = new HashMap<>();
            for (List<Integer> at : fitting) {
                groups.merge(heard(at, being), 1, Integer::sum);
            }
            leastByMost.putIfAbsent(groups.values().stream().max(Comparator.naturalOrder()).orElse(0), being);
        }
        return leastByMost.firstEntry().getValue();
    }

    long days(int deeds, int seed, int what) {
        if (deeds < 1 || deeds > 60 || seed < 0 || what < 0 || what > 2) {
            return OUTSIDE;
        }
        List<Integer> at = in;
        long drawn = seed;
        int lived = 0;
        for (List<Integer> choices = allowed(at); lived < deeds && !choices.isEmpty(); choices = allowed(at)) {
            drawn = (1103515245L * drawn + 12345L) & 0x7fffffffL;
            at = after(at, choices.get((int) ((drawn >> 16) % choices.size())));
            lived++;
        }
        return what == 0 ? numberOf(at) : what == 1 ? lived : drawn;
    }

    // ---- what is told of all

    long image() {
        keptIn = in;
        keptTold = new ArrayList<>(told);
        keptDone = done;
        return numberOf(in);
    }

    long restore() {
        if (keptIn == null || keptIn.size() != beings.size()) {
            return STATE;
        }
        in = keptIn;
        told = new ArrayList<>(keptTold);
        done = keptDone;
        return numberOf(in);
    }

    long count(int what) {
        switch (what) {
            case 0: return beings.size();
            case 1: return in.stream().filter(holder -> holder == -1).count();
            case 2: return done;
            case 3: return told.size();
            case 4: return page.length();
            case 5: return allowed(in).size();
            default: return OUTSIDE;
        }
    }

    long digest() {
        List<Long> all = new ArrayList<>();
        for (int being = 0; being < beings.size(); being++) {
            for (int what = 0; what < 8; what++) {
                all.add(about(being, what));
            }
            all.add(deep(being));
        }
        int set = (1 << beings.size()) - 1;
        all.addAll(List.of(number(), many(), fits(), ask(), soonest(set, 0), soonest(set, 1)));
        page.chars().forEach(code -> all.add((long) code));
        for (int what = 0; what < 6; what++) {
            all.add(count(what));
        }
        return all.stream().reduce(709L, (h, it) -> 31 * h + it);
    }
}
