import java.util.Arrays;

/**
 * Beings that have swallowed one another: who is in whom, what could come of it,
 * and what can be known of it from what was heard through the walls.
 */
public final class SwallowedInTurn {
    public static final int NONE = -1, UNKNOWN = -101, OUTSIDE = -102, STATE = -103, FULL = -104;

    private static final int UNSURE = -2;
    private static final int MOST_BEINGS = 5;

    private static final int KIND = 0, SIZE = 1, ROOM = 2, LIKES = 3, TRAITS = 4;
    private static final int BEAST = 1, FISH = 2, WOLF = 3, KINDS = 5;

    private static final int SWALLOWS_END = 25, COUGHS = 30, YAWNS = 40;
    private static final int DEEDS_END = YAWNS + MOST_BEINGS;

    private final Crowd crowd;
    private final Nesting now;
    /** Where deeds are tried that are not done. */
    private final Nesting trial;
    private final Outlook outlook;
    private final Page page;
    private final Talk talk;
    private int done;

    private final Talk keptTalk;
    private int keptNumber;
    private int keptDone;
    /** How many beings there were when the image was kept; NONE: there is no image. */
    private int keptTotal;

    public SwallowedInTurn() {
        crowd = new Crowd();
        now = new Nesting(crowd);
        trial = new Nesting(crowd);
        outlook = new Outlook(crowd);
        page = new Page();
        talk = new Talk();
        keptTalk = new Talk();
        keptTotal = NONE;
    }

    // ---- deeds as a text

    public int letter(int code) {
        if (code < 1 || code > 126) {
            return OUTSIDE;
        }
        return page.write(code) ? page.length() : FULL;
    }

    public int blank() {
        return page.clear();
    }

    public int fault() {
        return page.read();
    }

    public int tale() {
        if (page.read() < page.length() || !page.isWhole()) {
            return STATE;
        }
        trial.copy(now);
        int told = 0;
        while (told < page.deeds() && trial.allows(page.deedAt(told))) {
            trial.carryOut(page.deedAt(told));
            told++;
        }
        return told;
    }

    // ---- beings

    public int being(int kind, int size, int room, int likes) {
        if (!isBetween(kind, 0, KINDS - 1) || !isBetween(size, 1, 9)
                || !isBetween(room, 0, 20) || !isBetween(likes, 0, 31)) {
            return OUTSIDE;
        }
        int being = crowd.join(kind, size, room, likes);
        return being == NONE ? FULL : being;
    }

    public int about(int being, int what) {
        if (!crowd.has(being)) {
            return UNKNOWN;
        }
        switch (what) {
            case 0: return crowd.trait(being, KIND);
            case 1: return crowd.trait(being, SIZE);
            case 2: return crowd.trait(being, ROOM);
            case 3: return crowd.trait(being, LIKES);
            case 4: return now.holder(being);
            case 5: return now.filled(being);
            case 6: return now.walls(being);
            case 7: return now.heardBy(being);
            default: return OUTSIDE;
        }
    }

    public int as(int being, int kind) {
        if (!crowd.has(being)) {
            return UNKNOWN;
        }
        if (!isBetween(kind, 0, KINDS - 1)) {
            return OUTSIDE;
        }
        return crowd.isOf(being, kind) ? being : NONE;
    }

    public int may(int deed) {
        if (!crowd.knows(deed)) {
            return UNKNOWN;
        }
        return now.allows(deed) ? 1 : 0;
    }

    public int deed(int deed) {
        if (!crowd.knows(deed)) {
            return UNKNOWN;
        }
        if (!now.allows(deed)) {
            return STATE;
        }
        now.carryOut(deed);
        done++;
        return done;
    }

    public int number() {
        return now.toNumber();
    }

    // ---- what would be

    public int soonest(int set, int what) {
        if (!crowd.hasAll(set) || !isBetween(what, 0, 1)) {
            return OUTSIDE;
        }
        outlook.lookFrom(now);
        int place = outlook.placeWhereOut(set);
        return what == 0 ? outlook.stepsAt(place) : outlook.firstAt(place);
    }

    public int together(int a, int b) {
        if (!crowd.has(a) || !crowd.has(b) || a == b) {
            return UNKNOWN;
        }
        outlook.lookFrom(now);
        return outlook.stepsAt(outlook.placeWhereTogether(a, b));
    }

    public int deep(int being) {
        if (!crowd.has(being)) {
            return UNKNOWN;
        }
        outlook.lookFrom(now);
        return outlook.mostWalls(being);
    }

    public int many() {
        outlook.lookFrom(now);
        return outlook.total();
    }

    public int nesting(int i) {
        outlook.lookFrom(now);
        int number = outlook.numberAt(i);
        return number == NONE ? OUTSIDE : number;
    }

    // ---- what was heard

    public int told(int being, int set) {
        if (!crowd.has(being)) {
            return UNKNOWN;
        }
        if (!crowd.hasAll(set)) {
            return OUTSIDE;
        }
        return talk.keep(being, set) ? talk.length() : FULL;
    }

    public int forget() {
        return talk.clear();
    }

    public int fits() {
        outlook.lookFrom(now);
        return outlook.fitting(talk);
    }

    public int sure(int being) {
        if (!crowd.has(being)) {
            return UNKNOWN;
        }
        outlook.lookFrom(now);
        return outlook.sureHolder(being, talk);
    }

    public int ask() {
        outlook.lookFrom(now);
        return outlook.bestAsked(talk);
    }

    public int days(int deeds, int seed, int what) {
        if (!isBetween(deeds, 1, 60) || seed < 0 || !isBetween(what, 0, 2)) {
            return OUTSIDE;
        }
        trial.copy(now);
        int drawn = seed;
        int lived = 0;
        int choices = trial.choices();
        while (lived < deeds && choices > 0) {
            drawn = nextSeed(drawn);
            trial.carryOut(trial.choiceAt(drawn / 65536 % choices));
            lived++;
            choices = trial.choices();
        }
        return what == 0 ? trial.toNumber() : what == 1 ? lived : drawn;
    }

    // ---- what is told of all

    public int image() {
        keptNumber = now.toNumber();
        keptTalk.copy(talk);
        keptDone = done;
        keptTotal = crowd.total();
        return keptNumber;
    }

    public int restore() {
        if (keptTotal != crowd.total()) {
            return STATE;
        }
        now.become(keptNumber);
        talk.copy(keptTalk);
        done = keptDone;
        return keptNumber;
    }

    public int count(int what) {
        switch (what) {
            case 0: return crowd.total();
            case 1: return now.outside();
            case 2: return done;
            case 3: return talk.length();
            case 4: return page.length();
            case 5: return now.choices();
            default: return OUTSIDE;
        }
    }

    public long digest() {
        outlook.lookFrom(now);
        long h = 709;
        for (int being = 0; being < crowd.total(); being++) {
            for (int what = 0; what <= 7; what++) {
                h = 31 * h + about(being, what);
            }
            h = 31 * h + outlook.mostWalls(being);
        }
        int allOut = outlook.placeWhereOut(crowd.all());
        h = 31 * h + now.toNumber();
        h = 31 * h + outlook.total();
        h = 31 * h + outlook.fitting(talk);
        h = 31 * h + outlook.bestAsked(talk);
        h = 31 * h + outlook.stepsAt(allOut);
        h = 31 * h + outlook.firstAt(allOut);
        for (int place = 0; place < page.length(); place++) {
            h = 31 * h + page.letterAt(place);
        }
        for (int what = 0; what <= 5; what++) {
            h = 31 * h + count(what);
        }
        return h;
    }

    private static boolean isBetween(int value, int least, int most) {
        return value >= least && value <= most;
    }

    private static int nextSeed(int seed) {
        return (int) ((1103515245L * seed + 12345L) % 2147483648L);
    }

    private static boolean isDeed(int deed) {
        if (deed < 0 || deed >= DEEDS_END) {
            return false;
        }
        return deed < SWALLOWS_END || deed >= COUGHS && deed % 10 < MOST_BEINGS;
    }

    private static int doer(int deed) {
        return deed < SWALLOWS_END ? deed / MOST_BEINGS : deed % 10;
    }

    /** Whom a deed swallows; of the other deeds the doer, so that it is always a being. */
    private static int prey(int deed) {
        return deed < SWALLOWS_END ? deed % MOST_BEINGS : doer(deed);
    }

    /** The beings there are, and what each is like; nothing of where they are. */
    private static final class Crowd {
        /** For each kind, by its number, the bits of all kinds that one of it is. */
        private static final int[] KINDS_OF_ONE = {0b00001, 0b00011, 0b00111, 0b01011, 0b10111};

        private final int[] traits = new int[MOST_BEINGS * TRAITS];
        private int total;

        int total() {
            return total;
        }

        int all() {
            return (1 << total) - 1;
        }

        boolean has(int being) {
            return being >= 0 && being < total;
        }

        boolean hasAll(int set) {
            return set >= 0 && set <= all();
        }

        /** Whether it is a deed of beings that are there. */
        boolean knows(int deed) {
            return isDeed(deed) && has(doer(deed)) && has(prey(deed));
        }

        /** The number of the one that came; NONE: there is no place for it. */
        int join(int kind, int size, int room, int likes) {
            int start = total * TRAITS;
            if (total < 0 || total >= MOST_BEINGS || start + LIKES >= traits.length) {
                return NONE;
            }
            traits[start + KIND] = kind;
            traits[start + SIZE] = size;
            traits[start + ROOM] = room;
            traits[start + LIKES] = likes;
            total++;
            return total - 1;
        }

        int trait(int being, int what) {
            int place = being * TRAITS + what;
            return place >= 0 && place < traits.length ? traits[place] : 0;
        }

        boolean isOf(int being, int kind) {
            int own = trait(being, KIND);
            if (own < 0 || own >= KINDS_OF_ONE.length) {
                return false;
            }
            return (KINDS_OF_ONE[own] >> kind & 1) == 1;
        }
    }

    /** Where each being is, and what may be done there. */
    private static final class Nesting {
        private static final int BASE = MOST_BEINGS + 1;

        private final Crowd crowd;
        /** For each being the one right in which it is; NONE: it is outside, or not there. */
        private final int[] holders = new int[MOST_BEINGS];

        Nesting(Crowd crowd) {
            this.crowd = crowd;
            Arrays.fill(holders, NONE);
        }

        int holder(int being) {
            return being >= 0 && being < holders.length ? holders[being] : NONE;
        }

        private void put(int being, int holder) {
            if (being >= 0 && being < holders.length) {
                holders[being] = holder;
            }
        }

        void copy(Nesting other) {
            for (int being = 0; being < holders.length; being++) {
                holders[being] = other.holder(being);
            }
        }

        int toNumber() {
            int number = 0;
            for (int being = holders.length - 1; being >= 0; being--) {
                number = number * BASE + holders[being] + 1;
            }
            return number;
        }

        void become(int number) {
            int rest = number;
            for (int being = 0; being < holders.length; being++) {
                holders[being] = rest % BASE - 1;
                rest = rest / BASE;
            }
        }

        int filled(int being) {
            int filled = 0;
            for (int other = 0; other < crowd.total(); other++) {
                if (holder(other) == being) {
                    filled += crowd.trait(other, SIZE);
                }
            }
            return filled;
        }

        int outside() {
            int outside = 0;
            for (int being = 0; being < crowd.total(); being++) {
                if (holder(being) == NONE) {
                    outside++;
                }
            }
            return outside;
        }

        boolean areOutside(int set) {
            for (int being = 0; being < holders.length; being++) {
                if ((set >> being & 1) == 1 && holders[being] != NONE) {
                    return false;
                }
            }
            return true;
        }

        int walls(int being) {
            int walls = 0;
            int around = holder(being);
            while (around != NONE && walls < MOST_BEINGS) {
                walls++;
                around = holder(around);
            }
            return walls;
        }

        /** Whom it hears, as bits. */
        int heardBy(int being) {
            int heard = 0;
            for (int other = 0; other < crowd.total(); other++) {
                if (other != being && hears(being, other)) {
                    heard |= 1 << other;
                }
            }
            return heard;
        }

        /** Whether there is at most one wall between them: around none of them, around a, or around b. */
        private boolean hears(int a, int b) {
            int aroundA = holder(a);
            int aroundB = holder(b);
            // What is around a may be b itself, or be where b is: both are told alike by where it is.
            return aroundA == aroundB
                    || aroundA != NONE && holder(aroundA) == aroundB
                    || aroundB != NONE && holder(aroundB) == aroundA;
        }

        boolean allows(int deed) {
            if (!crowd.knows(deed)) {
                return false;
            }
            int doer = doer(deed);
            if (deed < SWALLOWS_END) {
                return canSwallow(doer, prey(deed));
            }
            int out = comingOut(deed);
            return out != 0 && canTake(holder(doer), out);
        }

        /** Carries out a deed that it allows. */
        void carryOut(int deed) {
            int doer = doer(deed);
            if (deed < SWALLOWS_END) {
                put(prey(deed), doer);
                return;
            }
            int out = comingOut(deed);
            int target = holder(doer);
            for (int being = 0; being < holders.length; being++) {
                if ((out >> being & 1) == 1) {
                    holders[being] = target;
                }
            }
        }

        private boolean canSwallow(int a, int b) {
            if (a == b || holder(a) != holder(b) || !crowd.isOf(a, BEAST)) {
                return false;
            }
            boolean isLiked = (crowd.trait(a, LIKES) >> crowd.trait(b, KIND) & 1) == 1;
            if (!isLiked || filled(a) + crowd.trait(b, SIZE) > crowd.trait(a, ROOM)) {
                return false;
            }
            int room = crowd.trait(b, ROOM);
            return room == 0 || filled(b) != room;
        }

        /** Who comes out by a cough or a yawn, as bits; whether there is room for them is not asked. */
        private int comingOut(int deed) {
            int doer = doer(deed);
            boolean yawns = deed >= YAWNS;
            if (yawns && crowd.isOf(doer, FISH)) {
                return 0;
            }
            int most = yawns ? MOST_BEINGS : crowd.isOf(doer, WOLF) ? 2 : 1;
            int out = 0;
            for (int being = crowd.total() - 1; being >= 0 && most > 0; being--) {
                if (holder(being) == doer) {
                    out |= 1 << being;
                    most--;
                }
            }
            return out;
        }

        private boolean canTake(int holder, int set) {
            if (holder == NONE) {
                return true;
            }
            int filled = filled(holder);
            for (int being = 0; being < crowd.total(); being++) {
                if ((set >> being & 1) == 1) {
                    filled += crowd.trait(being, SIZE);
                }
            }
            return filled <= crowd.trait(holder, ROOM);
        }

        /** How many deeds may be. */
        int choices() {
            int choices = 0;
            for (int deed = 0; deed < DEEDS_END; deed++) {
                if (allows(deed)) {
                    choices++;
                }
            }
            return choices;
        }

        /** The so-manieth deed that may be, by number; NONE: there are not so many. */
        int choiceAt(int place) {
            int passed = 0;
            for (int deed = 0; deed < DEEDS_END; deed++) {
                if (allows(deed)) {
                    if (passed == place) {
                        return deed;
                    }
                    passed++;
                }
            }
            return NONE;
        }
    }

    /** All nestings that can come from one of them, in the order in which they are reached. */
    private static final class Outlook {
        /** All numbers of five figures of six. */
        private static final int NUMBERS = 7776;
        /** So many ways there are for five to be in one another, none in itself by way of others. */
        private static final int MOST_NESTINGS = 1296;

        private final Crowd crowd;
        private final Nesting here;
        private final Nesting next;
        /** The numbers of the nestings that can come, the sooner the earlier. */
        private final int[] reached = new int[MOST_NESTINGS];
        /** Beside each of these: by how few deeds it can come. */
        private final int[] steps = new int[MOST_NESTINGS];
        /** Beside each of these: the least deed that begins so short a row; NONE: it is there at once. */
        private final int[] firsts = new int[MOST_NESTINGS];
        private int total;
        /** By number: whether it is among these. */
        private final boolean[] isReached = new boolean[NUMBERS];
        /** By what one might say, as bits: in how many nestings it would. */
        private final int[] answers = new int[1 << MOST_BEINGS];
        /** From which nesting of how many beings it was looked, so as not to look twice. */
        private int startNumber = NONE;
        private int startTotal = NONE;

        Outlook(Crowd crowd) {
            this.crowd = crowd;
            here = new Nesting(crowd);
            next = new Nesting(crowd);
        }

        void lookFrom(Nesting start) {
            int number = start.toNumber();
            if (number == startNumber && crowd.total() == startTotal) {
                return;
            }
            startNumber = number;
            startTotal = crowd.total();
            for (int i = 0; i < isReached.length; i++) {
                isReached[i] = false;
            }
            total = 0;
            reach(number, 0, NONE);
            for (int i = 0; i < total && i < reached.length; i++) {
                spread(i);
            }
        }

        /**
         * Deeds are tried from the least on, and nestings in the order in which they were reached:
         * so the first row by which one is reached is the shortest, and of like ones begins with the least deed.
         */
        private void spread(int place) {
            here.become(reachedAt(place));
            int step = stepsAt(place) + 1;
            int first = firstAt(place);
            for (int deed = 0; deed < DEEDS_END; deed++) {
                if (here.allows(deed)) {
                    next.copy(here);
                    next.carryOut(deed);
                    reach(next.toNumber(), step, first == NONE ? deed : first);
                }
            }
        }

        private void reach(int number, int step, int first) {
            if (number < 0 || number >= isReached.length || isReached[number]) {
                return;
            }
            if (total < 0 || total >= reached.length || total >= steps.length || total >= firsts.length) {
                return;
            }
            isReached[number] = true;
            reached[total] = number;
            steps[total] = step;
            firsts[total] = first;
            total++;
        }

        private int reachedAt(int place) {
            return place >= 0 && place < reached.length ? reached[place] : 0;
        }

        /** By how few deeds the nesting at a place is reached; NONE: there is no place. */
        int stepsAt(int place) {
            return place >= 0 && place < steps.length ? steps[place] : NONE;
        }

        int firstAt(int place) {
            return place >= 0 && place < firsts.length ? firsts[place] : NONE;
        }

        int total() {
            return total;
        }

        /** The number of the so-manieth nesting that can come, by number; NONE: there are not so many. */
        int numberAt(int place) {
            int passed = 0;
            for (int number = 0; number < isReached.length; number++) {
                if (isReached[number]) {
                    if (passed == place) {
                        return number;
                    }
                    passed++;
                }
            }
            return NONE;
        }

        /** The place of the soonest nesting in which all these are outside; NONE: none comes. */
        int placeWhereOut(int set) {
            for (int i = 0; i < total && i < reached.length; i++) {
                here.become(reached[i]);
                if (here.areOutside(set)) {
                    return i;
                }
            }
            return NONE;
        }

        /** The place of the soonest nesting in which two are right in the same one; NONE: none comes. */
        int placeWhereTogether(int a, int b) {
            for (int i = 0; i < total && i < reached.length; i++) {
                here.become(reached[i]);
                if (here.holder(a) == here.holder(b)) {
                    return i;
                }
            }
            return NONE;
        }

        int mostWalls(int being) {
            int most = 0;
            for (int i = 0; i < total && i < reached.length; i++) {
                here.become(reached[i]);
                most = Math.max(most, here.walls(being));
            }
            return most;
        }

        int fitting(Talk talk) {
            int fitting = 0;
            for (int i = 0; i < total && i < reached.length; i++) {
                here.become(reached[i]);
                if (talk.isSoIn(here)) {
                    fitting++;
                }
            }
            return fitting;
        }

        /** In whom it is in all nestings that fit; UNSURE: it differs, or none fits. */
        int sureHolder(int being, Talk talk) {
            int sure = UNSURE;
            for (int i = 0; i < total && i < reached.length; i++) {
                here.become(reached[i]);
                if (talk.isSoIn(here)) {
                    if (sure != UNSURE && sure != here.holder(being)) {
                        return UNSURE;
                    }
                    sure = here.holder(being);
                }
            }
            return sure;
        }

        /** Whose answer leaves fewest nestings at the worst; NONE: there is nobody, or none fits. */
        int bestAsked(Talk talk) {
            int best = NONE;
            int fewest = 0;
            for (int being = 0; being < crowd.total(); being++) {
                int left = mostLeft(being, talk);
                if (left > 0 && (best == NONE || left < fewest)) {
                    best = being;
                    fewest = left;
                }
            }
            return best;
        }

        /** How many of the nestings that fit could be left at most, when this one has said whom it hears. */
        private int mostLeft(int being, Talk talk) {
            Arrays.fill(answers, 0);
            int most = 0;
            for (int i = 0; i < total && i < reached.length; i++) {
                here.become(reached[i]);
                int heard = here.heardBy(being);
                if (heard >= 0 && heard < answers.length && talk.isSoIn(here)) {
                    answers[heard]++;
                    most = Math.max(most, answers[heard]);
                }
            }
            return most;
        }
    }

    /** What was told: who hears whom. */
    private static final class Talk {
        private final int[] tellers = new int[4];
        private final int[] heard = new int[4];
        private int length;

        int length() {
            return length;
        }

        /** Whether there was place for it. */
        boolean keep(int teller, int set) {
            if (length < 0 || length >= tellers.length || length >= heard.length) {
                return false;
            }
            tellers[length] = teller;
            heard[length] = set;
            length++;
            return true;
        }

        /** Empties it: how much there was. */
        int clear() {
            int were = length;
            length = 0;
            return were;
        }

        void copy(Talk other) {
            for (int i = 0; i < tellers.length && i < other.tellers.length; i++) {
                tellers[i] = other.tellers[i];
            }
            for (int i = 0; i < heard.length && i < other.heard.length; i++) {
                heard[i] = other.heard[i];
            }
            length = other.length;
        }

        boolean isSoIn(Nesting nesting) {
            for (int i = 0; i < length && i < tellers.length && i < heard.length; i++) {
                if (nesting.heardBy(tellers[i]) != heard[i]) {
                    return false;
                }
            }
            return true;
        }
    }

    /** The page: letters, read as deeds with commas between. */
    private static final class Page {
        private static final int MOST_DEEDS = 10;

        private final int[] letters = new int[40];
        private int length;

        private final int[] deeds = new int[MOST_DEEDS];
        /** How many whole deeds were read. */
        private int read;
        /** What was read of the deed that is not yet whole. */
        private int begun;
        /** How many figures it still needs. */
        private int figuresDue;
        /** Whether the last letter read ended a deed. */
        private boolean whole;

        int length() {
            return length;
        }

        int letterAt(int place) {
            return place >= 0 && place < letters.length ? letters[place] : 0;
        }

        /** Whether there was place for it. */
        boolean write(int code) {
            if (length < 0 || length >= letters.length) {
                return false;
            }
            letters[length] = code;
            length++;
            return true;
        }

        /** Empties it: how many letters there were. */
        int clear() {
            int were = length;
            length = 0;
            return were;
        }

        int deeds() {
            return read;
        }

        int deedAt(int place) {
            return place >= 0 && place < deeds.length ? deeds[place] : NONE;
        }

        /** Whether what was read are deeds to the end, none half told. */
        boolean isWhole() {
            return whole;
        }

        /** Reads the page up to the first letter that can't stand there: its place, or the length. */
        int read() {
            read = 0;
            figuresDue = 0;
            whole = false;
            for (int place = 0; place < length && place < letters.length; place++) {
                if (!take(letters[place])) {
                    return place;
                }
            }
            return length;
        }

        private boolean take(int code) {
            if (figuresDue > 0) {
                return takeFigure(code - '0');
            }
            if (whole) {
                whole = false;
                return code == ',' && read < MOST_DEEDS;
            }
            return takeSign(code);
        }

        /** What is begun is chosen so that figures of five behind it make the deed's number. */
        private boolean takeSign(int code) {
            switch (code) {
                case 's':
                    begun = 0;
                    figuresDue = 2;
                    return true;
                case 'c':
                    begun = COUGHS / MOST_BEINGS;
                    figuresDue = 1;
                    return true;
                case 'y':
                    begun = YAWNS / MOST_BEINGS;
                    figuresDue = 1;
                    return true;
                default:
                    return false;
            }
        }

        private boolean takeFigure(int figure) {
            if (figure < 0 || figure >= MOST_BEINGS) {
                return false;
            }
            begun = begun * MOST_BEINGS + figure;
            figuresDue--;
            if (figuresDue == 0 && read >= 0 && read < deeds.length) {
                deeds[read] = begun;
                read++;
                whole = true;
            }
            return true;
        }
    }
}
