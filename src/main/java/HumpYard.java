/**
 * A hump yard: wagons come in a row, roll over a hump to tracks by the bits of
 * their codes, and are pulled from there until they stand in the trains they
 * are wanted in. What each call answers is told in the project's document.
 */
public final class HumpYard {
    public static final int NONE = -1, BAD = -2, STATE = -3, FULL = -4, NOT = -5;
    public static final long NO = Long.MIN_VALUE;

    private static final int NOTHING = -11, BEYOND = -13, BELOW = -14;
    private static final int FAULT_BASE = -100;

    private static final int MOST_WAGONS = 8;
    private static final int TRAINS = 2;
    private static final int TRACKS = 3;
    private static final int CODES = 8;
    private static final int BRANDS = 4;
    private static final int MOST_ROOM = 24;
    private static final int MOST_LENGTH = 3;
    private static final int TAPE_ROOM = 40;
    private static final int MOST_PULLS = 20;
    private static final int MOST_SEEDS = 20;
    private static final int LISTS = 4;
    private static final int LIST_ROOM = 12;
    /** Calls that ask for one of several things tell wagons and places from this number on. */
    private static final int FROM = 10;
    /** The longest protocol: H, 8 wagons, and three times ;, a figure, 8 wagons. */
    private static final int PAPER_ROOM = 71;

    private static final int[] AS_THEY_COME = {0, 1, 2, 3, 4, 5, 6, 7};

    private final Yard now = new Yard();
    private final Yard kept = new Yard();
    private boolean keptOnce = false;
    private final Tape tape = new Tape();
    private final Paper sheet = new Paper();
    private final Lists lists = new Lists();
    private final Binder binder = new Binder();
    private final Renumbering renumbering = new Renumbering();
    /** Tracks and trains of what goes on only in thought. */
    private final Lanes thought = new Lanes();
    /** Codes of what is only tried or told. */
    private final int[] tried = new int[MOST_WAGONS];

    public HumpYard() {
    }

    // ---- the yard

    public int feed(int n, int a, int b, int c, int d) {
        if (n < 1 || n > 4 || !Tape.takes(a) || !Tape.takes(b) || !Tape.takes(c) || !Tape.takes(d)) {
            return BAD;
        }
        if (tape.used + n > TAPE_ROOM) {
            return FULL;
        }
        tape.append(a);
        if (n > 1) {
            tape.append(b);
        }
        if (n > 2) {
            tape.append(c);
        }
        if (n > 3) {
            tape.append(d);
        }
        return tape.used;
    }

    public int yard() {
        int fault = tape.faultOfYard();
        if (fault == NONE) {
            now.becomeNew(tape);
        }
        tape.used = 0;
        return fault == NONE ? now.wagons : FAULT_BASE - fault;
    }

    public int codes() {
        if (now.humped) {
            return STATE;
        }
        int fault = tape.faultOfFigures(CODES, now.wagons, now.wagons);
        if (fault == NONE) {
            for (int w = 0; w < now.wagons; w++) {
                now.codes[w] = tape.figureAt(w);
            }
        }
        tape.used = 0;
        return fault == NONE ? now.wagons : FAULT_BASE - fault;
    }

    public int set(int wagon, int what, int v) {
        if (!now.hasWagon(wagon) || what < 0 || what > 1) {
            return NONE;
        }
        boolean asTold = what == 0 ? v >= 1 && v <= MOST_LENGTH : v >= 0 && v < CODES;
        if (!asTold) {
            return BAD;
        }
        if (now.humped) {
            return STATE;
        }
        int[] row = what == 0 ? now.lengths : now.codes;
        int was = row[wagon];
        row[wagon] = v;
        return was;
    }

    public int room(int track, int v) {
        if (!isTrack(track)) {
            return NONE;
        }
        if (v < 0 || v > MOST_ROOM) {
            return BAD;
        }
        if (now.humped) {
            return STATE;
        }
        int was = now.rooms[track];
        now.rooms[track] = v;
        return was;
    }

    public int brand(int k) {
        if (k < 0 || k >= BRANDS) {
            return NONE;
        }
        int was = now.brandNumber;
        now.brandNumber = k;
        return was;
    }

    public int wagon(int wagon, int what) {
        if (!now.hasWagon(wagon)) {
            return NONE;
        }
        switch (what) {
            case 0:
                return now.lengths[wagon];
            case 1:
                return now.codes[wagon];
            case 2:
                return now.trainOf[wagon];
            case 3:
                return now.placeOf[wagon];
            case 4:
                return now.chainOf(wagon);
            case 5:
                return whereIs(wagon);
            case 6:
                return Integer.bitCount(now.codes[wagon]);
            case 7:
                return fewestNow() > TRACKS ? NOT : presortedCode(wagon);
            default:
                return NONE;
        }
    }

    public int wanted(int train, int place) {
        if (!isTrain(train)) {
            return NONE;
        }
        if (place == -1) {
            return now.sizes[train];
        }
        return place >= 0 && place < now.sizes[train] ? now.wantedAt(train, place) : NONE;
    }

    public int track(int track, int what) {
        if (!isTrack(track)) {
            return NONE;
        }
        switch (what) {
            case 0:
                return now.rooms[track];
            case 1:
                return now.lengthsOn(now.lanes, track);
            case 2:
                return now.loadOf(now.codes, track);
            default:
                return what >= FROM ? now.lanes.wagonAt(track, what - FROM) : NONE;
        }
    }

    // ---- codes

    public int chains(int train) {
        if (train == TRAINS) {
            return now.needOf(AS_THEY_COME);
        }
        return isTrain(train) ? now.chainsOf(train, AS_THEY_COME) : NONE;
    }

    public int fewest(int what) {
        if (what == 0) {
            return fewestNow();
        }
        if (what == 1) {
            return Brands.howMany(now.brandNumber);
        }
        if (what >= FROM && what < FROM + CODES) {
            return Brands.mayBe(now.brandNumber, what - FROM) ? 1 : 0;
        }
        return NONE;
    }

    public int presort() {
        if (now.humped) {
            return STATE;
        }
        if (fewestNow() > TRACKS) {
            return NOT;
        }
        for (int w = 0; w < now.wagons; w++) {
            now.codes[w] = presortedCode(w);
        }
        return now.stepsOf(now.codes);
    }

    public int right(int what) {
        switch (what) {
            case 0:
                return now.firstNotRight(now.codes) == NONE ? 1 : 0;
            case 1:
                return now.judgeCodes(now.codes, now.wagons) == NOT ? 1 : 0;
            case 2:
                return now.stepsOf(now.codes);
            case 3:
                return now.rollsOf(now.codes);
            default:
                return NONE;
        }
    }

    public int bounded(int what) {
        boolean ofWagon = what >= FROM && now.hasWagon(what - FROM);
        if (what != 0 && what != 1 && !ofWagon) {
            return NONE;
        }
        if (!binder.findBest(now)) {
            return NOT;
        }
        if (ofWagon) {
            return binder.best[what - FROM];
        }
        return what == 0 ? now.stepsOf(binder.best) : now.rollsOf(binder.best);
    }

    public int bind() {
        if (now.humped) {
            return STATE;
        }
        if (!binder.findBest(now)) {
            return NOT;
        }
        System.arraycopy(binder.best, 0, now.codes, 0, now.wagons);
        return now.rollsOf(now.codes);
    }

    public long mean(int part) {
        return now.wagons == 0 ? NO : partOfLowest(now.rollsOf(now.codes), now.wagons, part);
    }

    // ---- the hump

    public int hump() {
        if (now.humped) {
            return STATE;
        }
        now.humpInto(thought, now.codes);
        if (now.isOverfull(thought)) {
            return FULL;
        }
        now.lanes.become(thought);
        now.humped = true;
        now.pulls = 0;
        return now.lanes.countOut();
    }

    public int pull(int track) {
        if (!isTrack(track)) {
            return NONE;
        }
        if (!now.humped) {
            return STATE;
        }
        thought.become(now.lanes);
        int rolled = now.pullIn(thought, track, now.codes);
        if (now.isOverfull(thought)) {
            return FULL;
        }
        now.lanes.become(thought);
        now.pulls++;
        return rolled;
    }

    public int clear() {
        int were = now.lanes.countOut();
        now.becomeCleared();
        return were;
    }

    public int out(int train, int place) {
        if (!isTrain(train)) {
            return NONE;
        }
        int lane = Lanes.outOf(train);
        return place == -1 ? now.lanes.counts[lane] : now.lanes.wagonAt(lane, place);
    }

    public int wrong(int train) {
        return isTrain(train) ? now.firstWrong(now.lanes, train) : BAD;
    }

    public int replay(int what) {
        if (what < 0 || what > 5) {
            return NONE;
        }
        int fault = tape.faultOfFigures(TRACKS, 0, MOST_PULLS);
        int answer = fault == NONE ? replayed(what) : FAULT_BASE - fault;
        tape.used = 0;
        return answer;
    }

    public int spell() {
        sheet.used = 0;
        sheet.append('H');
        now.humpInto(thought, now.codes);
        for (int w = 0; w < now.wagons; w++) {
            sheet.appendRoll(w, now.laneBehind(now.codes, w, -1));
        }
        for (int track = 0; track < TRACKS; track++) {
            spellPull(track);
        }
        return sheet.used;
    }

    public int paper(int i) {
        return i >= 0 && i < sheet.used ? sheet.bytes[i] : NONE;
    }

    // ---- what would be

    public int elsewhere(int what) {
        if (what < 0 || what > 2) {
            return BAD;
        }
        if (!renumbering.findElsewhere(now)) {
            return NOT;
        }
        if (what == 0) {
            return renumbering.bestWagon;
        }
        return what == 1 ? renumbering.bestPlace : renumbering.bestNeed;
    }

    public int drawn(int seed, int what) {
        boolean ofWagon = what >= FROM && now.hasWagon(what - FROM);
        if (what != 0 && what != 1 && !ofWagon) {
            return NONE;
        }
        renumbering.drawRow(now.wagons, seed);
        if (ofWagon) {
            return renumbering.numbers[what - FROM];
        }
        int need = now.needOf(renumbering.numbers);
        return what == 0 ? need : Brands.fewestFor(now.brandNumber, need);
    }

    public long odds(int seed, int m, int k, int part) {
        if (m < 1 || m > MOST_SEEDS || k < 0 || k > MOST_WAGONS) {
            return NO;
        }
        int hits = 0;
        for (int i = 0; i < m; i++) {
            renumbering.drawRow(now.wagons, seed + i);
            if (now.needOf(renumbering.numbers) <= k) {
                hits++;
            }
        }
        return partOfLowest(hits, m, part);
    }

    public int seen(int wagon, int train, int list) {
        if (!now.hasWagon(wagon) || !isTrain(train) || !Lists.isList(list)) {
            return NONE;
        }
        if (!lists.holds(list)) {
            return NOTHING;
        }
        System.arraycopy(now.codes, 0, tried, 0, MOST_WAGONS);
        int bits = 0;
        for (int code = 0; code < CODES; code++) {
            tried[wagon] = code;
            now.runWhole(thought, tried);
            if (tellsOut(list, train)) {
                bits |= 1 << code;
            }
        }
        return bits;
    }

    public int judge(int list) {
        if (!Lists.isList(list)) {
            return NONE;
        }
        if (!lists.holds(list)) {
            return NOTHING;
        }
        int told = Math.min(lists.sizes[list], now.wagons);
        System.arraycopy(lists.rows[list], 0, tried, 0, told);
        return now.judgeCodes(tried, told);
    }

    // ---- lists, the image

    public int list(int list, int n) {
        if (!Lists.isList(list)) {
            return NONE;
        }
        if (n > LIST_ROOM) {
            return BAD;
        }
        if (n < 0) {
            return BELOW;
        }
        lists.makeZeros(list, n);
        return 1;
    }

    public int put(int list, int i, int v) {
        if (!Lists.isList(list)) {
            return NONE;
        }
        if (!lists.holds(list)) {
            return NOTHING;
        }
        if (!lists.hasPlace(list, i)) {
            return BEYOND;
        }
        lists.rows[list][i] = v;
        return 1;
    }

    public long get(int list, int i) {
        return Lists.isList(list) && lists.hasPlace(list, i) ? lists.rows[list][i] : NO;
    }

    public int lay(int what, int train, int list, int i) {
        if (what < 0 || what > 1 || (what == 0 && !isTrain(train)) || !Lists.isList(list)) {
            return NONE;
        }
        if (!lists.holds(list)) {
            return NOTHING;
        }
        if (what == 1) {
            return lists.layRow(list, i, now.codes, now.wagons);
        }
        int lane = Lanes.outOf(train);
        return lists.layRow(list, i, now.lanes.rows[lane], now.lanes.counts[lane]);
    }

    public int image() {
        kept.become(now);
        keptOnce = true;
        return kept.wagons;
    }

    public int undo() {
        if (!keptOnce) {
            return STATE;
        }
        now.become(kept);
        return now.wagons;
    }

    public int count(int what) {
        switch (what) {
            case 0:
                return now.wagons;
            case 1:
                return now.lanes.countOut();
            case 2:
                return now.lanes.countOnTracks();
            case 3:
                return tape.used;
            case 4:
                return sheet.used;
            case 5:
                return now.brandNumber;
            case 6:
                return now.humped ? 1 : 0;
            case 7:
                return now.pulls;
            default:
                return BAD;
        }
    }

    // ---- helpers of the calls

    private static boolean isTrain(int train) {
        return train >= 0 && train < TRAINS;
    }

    private static boolean isTrack(int track) {
        return track >= 0 && track < TRACKS;
    }

    private int fewestNow() {
        return Brands.fewestFor(now.brandNumber, now.needOf(AS_THEY_COME));
    }

    private int presortedCode(int wagon) {
        return Brands.codeOfRank(now.brandNumber, now.chainOf(wagon));
    }

    private int whereIs(int wagon) {
        int lane = now.lanes.laneOf(wagon);
        if (lane == NONE) {
            return NOT;
        }
        return lane < TRACKS ? lane : 10 + now.trainOf[wagon];
    }

    /** One part of above / below in lowest terms; below is 1 or more, above is not below 0. */
    private static long partOfLowest(int above, int below, int part) {
        int a = above;
        int b = below;
        // numbers here are below 100, for which Euclid's way takes far fewer turns
        for (int turn = 0; turn < 100 && a != 0; turn++) {
            int rest = b % a;
            b = a;
            a = rest;
        }
        if (b < 1 || part < 0 || part > 1) {
            return NO;
        }
        return part == 0 ? above / b : below / b;
    }

    private int replayed(int what) {
        now.humpInto(thought, now.codes);
        int firstOver = now.isOverfull(thought) ? 0 : NOT;
        int rolled = 0;
        for (int k = 0; k < tape.used; k++) {
            rolled += now.pullIn(thought, tape.figureAt(k), now.codes);
            if (firstOver == NOT && now.isOverfull(thought)) {
                firstOver = k + 1;
            }
        }
        switch (what) {
            case 0:
                return thought.countOut();
            case 1:
                return firstOver;
            case 2:
                return thought.tracksInUse();
            case 3:
                return wrongInThought(0);
            case 4:
                return wrongInThought(1);
            default:
                return rolled;
        }
    }

    private int wrongInThought(int train) {
        int place = now.firstWrong(thought, train);
        return place == NONE ? NOT : place;
    }

    private void spellPull(int track) {
        int lying = thought.counts[track];
        if (lying == 0) {
            return;
        }
        sheet.append(';');
        sheet.append('0' + track);
        for (int i = 0; i < lying; i++) {
            int w = thought.wagonAt(track, i);
            sheet.appendRoll(w, now.laneBehind(now.codes, w, track));
        }
        now.pullIn(thought, track, now.codes);
    }

    private boolean tellsOut(int list, int train) {
        int lane = Lanes.outOf(train);
        int size = thought.counts[lane];
        if (lists.sizes[list] != size) {
            return false;
        }
        for (int i = 0; i < size; i++) {
            if (lists.rows[list][i] != thought.rows[lane][i]) {
                return false;
            }
        }
        return true;
    }

    /** Which codes may be by a brand, and how many steps so many of them take. */
    private static final class Brands {
        /** Codes here have 8 bits: each brand has at least as many as there may be wagons. */
        private static final int WIDE_CODES = 256;

        static boolean mayBe(int brandNumber, int code) {
            int ones = Integer.bitCount(code);
            switch (brandNumber) {
                case 0:
                    return true;
                case 1:
                    return ones <= 1;
                case 2:
                    return ones <= 2;
                default:
                    return ones <= 1 || (ones == 2 && (code & (code >> 1)) != 0);
            }
        }

        static int howMany(int brandNumber) {
            int many = 0;
            for (int code = 0; code < CODES; code++) {
                if (mayBe(brandNumber, code)) {
                    many++;
                }
            }
            return many;
        }

        /** The code that stands at a rank (0 on) among all that may be, in their order. */
        static int codeOfRank(int brandNumber, int rank) {
            int ahead = 0;
            for (int code = 0; code < WIDE_CODES; code++) {
                if (mayBe(brandNumber, code)) {
                    if (ahead == rank) {
                        return code;
                    }
                    ahead++;
                }
            }
            return WIDE_CODES - 1;
        }

        static int fewestFor(int brandNumber, int need) {
            return need == 0 ? 0 : widthOf(codeOfRank(brandNumber, need - 1));
        }

        /** The least h for which a code is below 2 to the h. */
        static int widthOf(int code) {
            int width = 0;
            while (width < 8 && code >> width != 0) {
                width++;
            }
            return width;
        }
    }

    /** What lies where, each first come first: lanes 0 .. 2 are tracks, 3 and 4 what is out of the trains. */
    private static final class Lanes {
        private static final int COUNT = TRACKS + TRAINS;

        final int[][] rows = new int[COUNT][MOST_WAGONS];
        final int[] counts = new int[COUNT];

        static int outOf(int train) {
            return TRACKS + train;
        }

        void empty() {
            for (int lane = 0; lane < COUNT; lane++) {
                counts[lane] = 0;
            }
        }

        void become(Lanes other) {
            for (int lane = 0; lane < COUNT; lane++) {
                counts[lane] = other.counts[lane];
                System.arraycopy(other.rows[lane], 0, rows[lane], 0, counts[lane]);
            }
        }

        void append(int lane, int wagon) {
            if (lane >= 0 && lane < COUNT && counts[lane] < MOST_WAGONS) {
                rows[lane][counts[lane]] = wagon;
                counts[lane]++;
            }
        }

        int wagonAt(int lane, int i) {
            return i >= 0 && i < counts[lane] ? rows[lane][i] : NONE;
        }

        int laneOf(int wagon) {
            for (int lane = 0; lane < COUNT; lane++) {
                for (int i = 0; i < counts[lane]; i++) {
                    if (rows[lane][i] == wagon) {
                        return lane;
                    }
                }
            }
            return NONE;
        }

        int countOut() {
            return counts[outOf(0)] + counts[outOf(1)];
        }

        int countOnTracks() {
            int sum = 0;
            for (int track = 0; track < TRACKS; track++) {
                sum += counts[track];
            }
            return sum;
        }

        int tracksInUse() {
            int bits = 0;
            for (int track = 0; track < TRACKS; track++) {
                if (counts[track] > 0) {
                    bits |= 1 << track;
                }
            }
            return bits;
        }
    }

    /** All that the image holds: wagons, trains, tracks, brand, what is humped, lies, is out. */
    private static final class Yard {
        int wagons = 0;
        int brandNumber = 0;
        boolean humped = false;
        int pulls = 0;
        final int[] lengths = new int[MOST_WAGONS];
        final int[] codes = new int[MOST_WAGONS];
        final int[] trainOf = new int[MOST_WAGONS];
        final int[] placeOf = new int[MOST_WAGONS];
        final int[][] wantedRows = new int[TRAINS][MOST_WAGONS];
        final int[] sizes = new int[TRAINS];
        final int[] rooms = new int[TRACKS];
        final Lanes lanes = new Lanes();

        Yard() {
            for (int track = 0; track < TRACKS; track++) {
                rooms[track] = MOST_ROOM;
            }
        }

        void become(Yard other) {
            wagons = other.wagons;
            brandNumber = other.brandNumber;
            humped = other.humped;
            pulls = other.pulls;
            System.arraycopy(other.lengths, 0, lengths, 0, MOST_WAGONS);
            System.arraycopy(other.codes, 0, codes, 0, MOST_WAGONS);
            System.arraycopy(other.trainOf, 0, trainOf, 0, MOST_WAGONS);
            System.arraycopy(other.placeOf, 0, placeOf, 0, MOST_WAGONS);
            for (int train = 0; train < TRAINS; train++) {
                System.arraycopy(other.wantedRows[train], 0, wantedRows[train], 0, MOST_WAGONS);
                sizes[train] = other.sizes[train];
            }
            System.arraycopy(other.rooms, 0, rooms, 0, TRACKS);
            lanes.become(other.lanes);
        }

        /** The tape's yard must be without a fault: its letters then are the numbers 0 .. n - 1. */
        void becomeNew(Tape told) {
            wagons = 0;
            sizes[0] = 0;
            sizes[1] = 0;
            int train = 0;
            for (int i = 0; i < told.used; i++) {
                if (told.bytes[i] == '|') {
                    train = 1;
                } else {
                    addWanted(train, told.bytes[i] - 'a');
                }
            }
            becomeCleared();
        }

        private void addWanted(int train, int wagon) {
            if (wagon < 0 || wagon >= MOST_WAGONS || sizes[train] >= MOST_WAGONS) {
                return;
            }
            lengths[wagon] = 1;
            codes[wagon] = 0;
            trainOf[wagon] = train;
            placeOf[wagon] = sizes[train];
            wantedRows[train][sizes[train]] = wagon;
            sizes[train]++;
            wagons++;
        }

        void becomeCleared() {
            lanes.empty();
            humped = false;
            pulls = 0;
        }

        boolean hasWagon(int wagon) {
            return wagon >= 0 && wagon < wagons;
        }

        int wantedAt(int train, int place) {
            return wantedRows[train][place];
        }

        // -- chains

        /** Whether the row of a train is cut ahead of a place (1 on), did wagons come by these numbers. */
        private boolean isCut(int train, int place, int[] numbers) {
            return numbers[wantedAt(train, place)] < numbers[wantedAt(train, place - 1)];
        }

        int chainsOf(int train, int[] numbers) {
            if (sizes[train] == 0) {
                return 0;
            }
            int many = 1;
            for (int place = 1; place < sizes[train]; place++) {
                if (isCut(train, place, numbers)) {
                    many++;
                }
            }
            return many;
        }

        int needOf(int[] numbers) {
            return Math.max(chainsOf(0, numbers), chainsOf(1, numbers));
        }

        int chainOf(int wagon) {
            int chain = 0;
            for (int place = 1; place <= placeOf[wagon]; place++) {
                if (isCut(trainOf[wagon], place, AS_THEY_COME)) {
                    chain++;
                }
            }
            return chain;
        }

        // -- codes, those that are or others

        /** The first wagon, by trains, that isn't right behind the one ahead of it; NONE. */
        int firstNotRight(int[] by) {
            for (int train = 0; train < TRAINS; train++) {
                for (int place = 1; place < sizes[train]; place++) {
                    int ahead = wantedAt(train, place - 1);
                    int behind = wantedAt(train, place);
                    boolean right = behind < ahead ? by[behind] > by[ahead] : by[behind] >= by[ahead];
                    if (!right) {
                        return behind;
                    }
                }
            }
            return NONE;
        }

        int loadOf(int[] by, int track) {
            int sum = 0;
            for (int w = 0; w < wagons; w++) {
                if ((by[w] >> track & 1) == 1) {
                    sum += lengths[w];
                }
            }
            return sum;
        }

        int stepsOf(int[] by) {
            int all = 0;
            for (int w = 0; w < wagons; w++) {
                all |= by[w];
            }
            return Brands.widthOf(all);
        }

        int rollsOf(int[] by) {
            int sum = wagons;
            for (int w = 0; w < wagons; w++) {
                sum += Integer.bitCount(by[w]);
            }
            return sum;
        }

        /** What is amiss with codes of which the first so many are told; NOT: they fit. */
        int judgeCodes(int[] by, int told) {
            for (int w = 0; w < wagons; w++) {
                if (w >= told || by[w] < 0 || by[w] >= CODES || !Brands.mayBe(brandNumber, by[w])) {
                    return w;
                }
            }
            int notRight = firstNotRight(by);
            if (notRight != NONE) {
                return 100 + notRight;
            }
            for (int track = 0; track < TRACKS; track++) {
                if (loadOf(by, track) > rooms[track]) {
                    return 200 + track;
                }
            }
            return NOT;
        }

        // -- rolling, in truth or in thought

        /** The lane that a wagon rolls to from a track (-1: over the hump). */
        int laneBehind(int[] by, int wagon, int track) {
            for (int next = track + 1; next < TRACKS; next++) {
                if ((by[wagon] >> next & 1) == 1) {
                    return next;
                }
            }
            return Lanes.outOf(trainOf[wagon]);
        }

        void humpInto(Lanes where, int[] by) {
            where.empty();
            for (int w = 0; w < wagons; w++) {
                where.append(laneBehind(by, w, -1), w);
            }
        }

        int pullIn(Lanes where, int track, int[] by) {
            int lying = where.counts[track];
            where.counts[track] = 0;
            // no wagon rolls to the track it comes from, so its row stays whole meanwhile
            for (int i = 0; i < lying; i++) {
                int w = where.rows[track][i];
                where.append(laneBehind(by, w, track), w);
            }
            return lying;
        }

        void runWhole(Lanes where, int[] by) {
            humpInto(where, by);
            for (int track = 0; track < TRACKS; track++) {
                pullIn(where, track, by);
            }
        }

        int lengthsOn(Lanes where, int track) {
            int sum = 0;
            for (int i = 0; i < where.counts[track]; i++) {
                sum += lengths[where.rows[track][i]];
            }
            return sum;
        }

        boolean isOverfull(Lanes where) {
            for (int track = 0; track < TRACKS; track++) {
                if (lengthsOn(where, track) > rooms[track]) {
                    return true;
                }
            }
            return false;
        }

        int firstWrong(Lanes where, int train) {
            int lane = Lanes.outOf(train);
            for (int place = 0; place < where.counts[lane]; place++) {
                if (where.rows[lane][place] != wantedAt(train, place)) {
                    return place;
                }
            }
            return NONE;
        }
    }

    /** Finds the bounded codes of a yard: wagon by wagon, by ranks among the codes that may be. */
    private static final class Binder {
        private static final int TOO_MANY = 1000;

        private final int[] allowed = new int[CODES];
        private int ranks = 0;
        private final int[] chain = new int[MOST_WAGONS];
        private final int[] chosen = new int[MOST_WAGONS];
        private final int[] load = new int[TRACKS];
        /** The fewest 1s that the wagons from one on can have. */
        private final int[] onesFrom = new int[MOST_WAGONS + 1];
        private int bestOnes = TOO_MANY;
        final int[] best = new int[MOST_WAGONS];

        /** Whether any codes fit; best holds the bounded ones then. */
        boolean findBest(Yard yard) {
            for (int w = 0; w < yard.wagons; w++) {
                chain[w] = yard.chainOf(w);
            }
            bestOnes = TOO_MANY;
            for (int steps = 0; steps <= TRACKS && bestOnes == TOO_MANY; steps++) {
                allowBelow(yard.brandNumber, 1 << steps);
                foresee(yard);
                choose(yard, 0, 0);
            }
            return bestOnes != TOO_MANY;
        }

        private void allowBelow(int brandNumber, int bound) {
            ranks = 0;
            for (int code = 0; code < bound && code < CODES; code++) {
                if (Brands.mayBe(brandNumber, code)) {
                    allowed[ranks] = code;
                    ranks++;
                }
            }
        }

        private void foresee(Yard yard) {
            onesFrom[yard.wagons] = 0;
            for (int w = yard.wagons - 1; w >= 0; w--) {
                int least = TRACKS;
                for (int rank = chain[w]; rank <= highest(yard, w); rank++) {
                    least = Math.min(least, Integer.bitCount(allowed[rank]));
                }
                onesFrom[w] = onesFrom[w + 1] + least;
            }
        }

        /** The highest rank of a wagon that leaves one for each chain behind its own. */
        private int highest(Yard yard, int wagon) {
            int train = yard.trainOf[wagon];
            int last = yard.wantedAt(train, yard.sizes[train] - 1);
            return ranks - 1 - (chain[last] - chain[wagon]);
        }

        /** The lowest rank behind the nearest wagon ahead in the train that has chosen already. */
        private int lowFor(Yard yard, int wagon) {
            int train = yard.trainOf[wagon];
            for (int place = yard.placeOf[wagon] - 1; place >= 0; place--) {
                int other = yard.wantedAt(train, place);
                if (other < wagon) {
                    return chosen[other] + chain[wagon] - chain[other];
                }
            }
            return chain[wagon];
        }

        private int highFor(Yard yard, int wagon) {
            int train = yard.trainOf[wagon];
            for (int place = yard.placeOf[wagon] + 1; place < yard.sizes[train]; place++) {
                int other = yard.wantedAt(train, place);
                if (other < wagon) {
                    return chosen[other] + chain[wagon] - chain[other];
                }
            }
            return highest(yard, wagon);
        }

        /**
         * Wagons choose by numbers, lesser codes first, and only fewer 1s replace
         * the best so far: so of like ones the first by wagons' codes stays.
         */
        private void choose(Yard yard, int wagon, int ones) {
            if (wagon >= yard.wagons) {
                bestOnes = ones;
                for (int w = 0; w < yard.wagons; w++) {
                    best[w] = allowed[chosen[w]];
                }
                return;
            }
            int high = highFor(yard, wagon);
            for (int rank = lowFor(yard, wagon); rank <= high; rank++) {
                int code = allowed[rank];
                int onesThen = ones + Integer.bitCount(code);
                if (onesThen + onesFrom[wagon + 1] < bestOnes) {
                    chosen[wagon] = rank;
                    addLoad(code, yard.lengths[wagon]);
                    if (loadsFit(yard.rooms)) {
                        choose(yard, wagon + 1, onesThen);
                    }
                    addLoad(code, -yard.lengths[wagon]);
                }
            }
        }

        private void addLoad(int code, int length) {
            for (int track = 0; track < TRACKS; track++) {
                if ((code >> track & 1) == 1) {
                    load[track] += length;
                }
            }
        }

        private boolean loadsFit(int[] rooms) {
            for (int track = 0; track < TRACKS; track++) {
                if (load[track] > rooms[track]) {
                    return false;
                }
            }
            return true;
        }
    }

    /** Numbers that wagons would have, did they come in another row. */
    private static final class Renumbering {
        private final int[] row = new int[MOST_WAGONS];
        final int[] numbers = new int[MOST_WAGONS];
        int bestWagon = NONE;
        int bestPlace = NONE;
        int bestNeed = 0;

        void drawRow(int wagons, int seed) {
            System.arraycopy(AS_THEY_COME, 0, row, 0, MOST_WAGONS);
            int z = seed;
            for (int i = wagons - 1; i >= 1; i--) {
                z = z * 1103515245 + 12345;
                int j = (z >>> 9) % (i + 1);
                int wagon = row[i];
                row[i] = row[j];
                row[j] = wagon;
            }
            for (int i = 0; i < wagons; i++) {
                numbers[row[i]] = i;
            }
        }

        /** Whether a wagon that came elsewhere would make need less; the best ones are told then. */
        boolean findElsewhere(Yard yard) {
            bestWagon = NONE;
            bestNeed = yard.needOf(AS_THEY_COME);
            for (int wagon = 0; wagon < yard.wagons; wagon++) {
                for (int place = 0; place < yard.wagons; place++) {
                    moveTo(yard.wagons, wagon, place);
                    int need = yard.needOf(numbers);
                    if (need < bestNeed) {
                        bestWagon = wagon;
                        bestPlace = place;
                        bestNeed = need;
                    }
                }
            }
            return bestWagon != NONE;
        }

        private void moveTo(int wagons, int wagon, int place) {
            for (int w = 0; w < wagons; w++) {
                if (w == wagon) {
                    numbers[w] = place;
                } else {
                    int closedUp = w < wagon ? w : w - 1;
                    numbers[w] = closedUp < place ? closedUp : closedUp + 1;
                }
            }
        }
    }

    /** Bytes that were fed and are read by the calls that tell a yard, codes or pulls. */
    private static final class Tape {
        final int[] bytes = new int[TAPE_ROOM];
        int used = 0;

        static boolean takes(int value) {
            return value >= 1 && value <= 127;
        }

        void append(int value) {
            if (used < TAPE_ROOM) {
                bytes[used] = value;
                used++;
            }
        }

        int figureAt(int i) {
            return bytes[i] - '0';
        }

        int faultOfYard() {
            int met = 0;
            boolean barMet = false;
            for (int i = 0; i < used; i++) {
                int letter = bytes[i] - 'a';
                if (bytes[i] == '|') {
                    if (barMet) {
                        return i;
                    }
                    barMet = true;
                } else if (letter < 0 || letter >= MOST_WAGONS || (met >> letter & 1) == 1) {
                    return i;
                } else {
                    met |= 1 << letter;
                }
            }
            return firstLetterFrom(Integer.bitCount(met));
        }

        private int firstLetterFrom(int bound) {
            for (int i = 0; i < used; i++) {
                if (bytes[i] != '|' && bytes[i] - 'a' >= bound) {
                    return i;
                }
            }
            return NONE;
        }

        /** The fault of figures below a bound, of which there must be least .. most; NONE. */
        int faultOfFigures(int bound, int least, int most) {
            for (int i = 0; i < used; i++) {
                if (i >= most || figureAt(i) < 0 || figureAt(i) >= bound) {
                    return i;
                }
            }
            return used < least ? used : NONE;
        }
    }

    /** The latest protocol. */
    private static final class Paper {
        final int[] bytes = new int[PAPER_ROOM];
        int used = 0;

        void append(int value) {
            if (used < PAPER_ROOM) {
                bytes[used] = value;
                used++;
            }
        }

        void appendRoll(int wagon, int lane) {
            append('a' + wagon);
            if (lane < TRACKS) {
                append('0' + lane);
            } else {
                append(lane == Lanes.outOf(0) ? '+' : '-');
            }
        }
    }

    /** Lists 0 .. 3: each holds nothing or a row of ints. */
    private static final class Lists {
        final int[][] rows = new int[LISTS][LIST_ROOM];
        /** -1: nothing is held. */
        final int[] sizes = new int[LISTS];

        Lists() {
            for (int list = 0; list < LISTS; list++) {
                sizes[list] = -1;
            }
        }

        static boolean isList(int list) {
            return list >= 0 && list < LISTS;
        }

        boolean holds(int list) {
            return sizes[list] >= 0;
        }

        boolean hasPlace(int list, int i) {
            return i >= 0 && i < sizes[list];
        }

        void makeZeros(int list, int size) {
            for (int i = 0; i < size; i++) {
                rows[list][i] = 0;
            }
            sizes[list] = size;
        }

        int layRow(int list, int from, int[] what, int many) {
            int laid = 0;
            // from is looked at first, so that from + i can't wrap around
            while (laid < many && hasPlace(list, from) && hasPlace(list, from + laid)) {
                rows[list][from + laid] = what[laid];
                laid++;
            }
            return laid == many ? laid : BEYOND;
        }
    }
}
