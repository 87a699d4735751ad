import java.util.ArrayList;
import java.util.HashMap;
import java.util.List;
import java.util.Map;

/** The document, written a second time, with lists and plain tries instead of any cleverness. */
public final class Model {
    private static final int NONE = -1, BAD = -2, STATE = -3, FULL = -4, NOT = -5;
    private static final int NOTHING = -11, BEYOND = -13, BELOW = -14;
    private static final long NO = Long.MIN_VALUE;

    private static final class World {
        List<List<Integer>> trains = List.of(List.of(), List.of());
        int[] length = new int[0];
        int[] code = new int[0];
        int[] room = {24, 24, 24};
        int brand = 0;
        List<List<Integer>> lies = emptyLanes();
        boolean humped = false;
        int pulls = 0;

        int n() {
            return length.length;
        }

        World copy() {
            World c = new World();
            c.trains = trains;
            c.length = length.clone();
            c.code = code.clone();
            c.room = room.clone();
            c.brand = brand;
            c.lies = copyLanes(lies);
            c.humped = humped;
            c.pulls = pulls;
            return c;
        }
    }

    private World w = new World();
    private World picture = null;
    private String tape = "";
    private String paper = "";
    private final Map<Integer, int[]> lists = new HashMap<>();

    private static List<List<Integer>> emptyLanes() {
        List<List<Integer>> lanes = new ArrayList<>();
        for (int i = 0; i < 5; i++) {
            lanes.add(new ArrayList<>());
        }
        return lanes;
    }

    private static List<List<Integer>> copyLanes(List<List<Integer>> from) {
        List<List<Integer>> lanes = new ArrayList<>();
        for (List<Integer> lane : from) {
            lanes.add(new ArrayList<>(lane));
        }
        return lanes;
    }

    private boolean noWagon(int wagon) {
        return wagon < 0 || wagon >= w.n();
    }

    private static boolean not(int v, int from, int to) {
        return v < from || v > to;
    }

    // the yard

    public int feed(int n, int a, int b, int c, int d) {
        int[] all = {a, b, c, d};
        boolean bad = not(n, 1, 4);
        for (int v : all) {
            bad |= not(v, 1, 127);
        }
        if (bad) {
            return BAD;
        }
        if (tape.length() + n > 40) {
            return FULL;
        }
        for (int i = 0; i < n; i++) {
            tape += (char) all[i];
        }
        return tape.length();
    }

    private String readTape() {
        String text = tape;
        tape = "";
        return text;
    }

    private static boolean yardGoesOnWith(String text) {
        if (!text.matches("[a-h]*(\\|[a-h]*)?")) {
            return false;
        }
        return text.chars().distinct().count() == text.length();
    }

    public int yard() {
        String text = readTape();
        for (int i = 0; i < text.length(); i++) {
            if (!yardGoesOnWith(text.substring(0, i + 1))) {
                return -100 - i;
            }
        }
        int letters = text.replace("|", "").length();
        for (int i = 0; i < text.length(); i++) {
            if (text.charAt(i) != '|' && text.charAt(i) >= 'a' + letters) {
                return -100 - i;
            }
        }
        World next = new World();
        next.room = w.room;
        next.brand = w.brand;
        next.length = new int[letters];
        next.code = new int[letters];
        java.util.Arrays.fill(next.length, 1);
        String[] parts = (text + (text.contains("|") ? "" : "|")).split("\\|", -1);
        next.trains = List.of(numbers(parts[0]), numbers(parts[1]));
        w = next;
        return letters;
    }

    private static List<Integer> numbers(String letters) {
        List<Integer> row = new ArrayList<>();
        for (char c : letters.toCharArray()) {
            row.add(c - 'a');
        }
        return row;
    }

    private static int faultOfFigures(String text, String figures, int least, int most) {
        for (int i = 0; i < text.length(); i++) {
            if (figures.indexOf(text.charAt(i)) < 0 || i + 1 > most) {
                return i;
            }
        }
        return text.length() < least ? text.length() : -1;
    }

    public int codes() {
        if (w.humped) {
            return STATE;
        }
        String text = readTape();
        int fault = faultOfFigures(text, "01234567", w.n(), w.n());
        if (fault >= 0) {
            return -100 - fault;
        }
        for (int i = 0; i < w.n(); i++) {
            w.code[i] = Integer.parseInt(text.substring(i, i + 1));
        }
        return w.n();
    }

    public int set(int wagon, int what, int v) {
        if (noWagon(wagon) || not(what, 0, 1)) {
            return NONE;
        }
        if (what == 0 ? not(v, 1, 3) : not(v, 0, 7)) {
            return BAD;
        }
        if (w.humped) {
            return STATE;
        }
        int[] row = what == 0 ? w.length : w.code;
        int was = row[wagon];
        row[wagon] = v;
        return was;
    }

    public int room(int track, int v) {
        if (not(track, 0, 2)) {
            return NONE;
        }
        if (not(v, 0, 24)) {
            return BAD;
        }
        if (w.humped) {
            return STATE;
        }
        int was = w.room[track];
        w.room[track] = v;
        return was;
    }

    public int brand(int k) {
        if (not(k, 0, 3)) {
            return NONE;
        }
        int was = w.brand;
        w.brand = k;
        return was;
    }

    public int wagon(int wagon, int what) {
        if (noWagon(wagon) || not(what, 0, 7)) {
            return NONE;
        }
        int train = w.trains.get(0).contains(wagon) ? 0 : 1;
        switch (what) {
            case 0: return w.length[wagon];
            case 1: return w.code[wagon];
            case 2: return train;
            case 3: return w.trains.get(train).indexOf(wagon);
            case 4: return chain(wagon);
            case 5:
                for (int lane = 0; lane < 5; lane++) {
                    if (w.lies.get(lane).contains(wagon)) {
                        return lane < 3 ? lane : 7 + lane;
                    }
                }
                return NOT;
            case 6: return ones(w.code[wagon]);
            default: return fewest(0) > 3 ? NOT : presorted(wagon);
        }
    }

    public int wanted(int train, int place) {
        if (not(train, 0, 1)) {
            return NONE;
        }
        List<Integer> row = w.trains.get(train);
        if (place == -1) {
            return row.size();
        }
        return not(place, 0, row.size() - 1) ? NONE : row.get(place);
    }

    public int track(int track, int what) {
        if (not(track, 0, 2)) {
            return NONE;
        }
        List<Integer> row = w.lies.get(track);
        if (what == 0) {
            return w.room[track];
        }
        if (what == 1) {
            return row.stream().mapToInt(v -> w.length[v]).sum();
        }
        if (what == 2) {
            return load(w.code, track);
        }
        return not(what, 10, 9 + row.size()) ? NONE : row.get(what - 10);
    }

    // codes

    private static int ones(int code) {
        return Integer.toBinaryString(code).replace("0", "").length();
    }

    private boolean may(int code) {
        String bits = Integer.toBinaryString(code);
        switch (w.brand) {
            case 0: return true;
            case 1: return ones(code) <= 1;
            case 2: return ones(code) <= 2;
            default: return ones(code) <= 1 || (ones(code) == 2 && bits.contains("11"));
        }
    }

    private static List<List<Integer>> chainsOf(List<Integer> row) {
        List<List<Integer>> chains = new ArrayList<>();
        for (int i = 0; i < row.size(); i++) {
            if (i == 0 || row.get(i) < row.get(i - 1)) {
                chains.add(new ArrayList<>());
            }
            chains.get(chains.size() - 1).add(row.get(i));
        }
        return chains;
    }

    private int chain(int wagon) {
        for (List<Integer> row : w.trains) {
            List<List<Integer>> chains = chainsOf(row);
            for (int i = 0; i < chains.size(); i++) {
                if (chains.get(i).contains(wagon)) {
                    return i;
                }
            }
        }
        throw new IllegalStateException();
    }

    /** NEED, did the wagons come in this row. */
    private int need(List<Integer> rowOfAll) {
        int most = 0;
        for (List<Integer> row : w.trains) {
            List<Integer> anew = new ArrayList<>();
            for (int wagon : row) {
                anew.add(rowOfAll.indexOf(wagon));
            }
            most = Math.max(most, chainsOf(anew).size());
        }
        return most;
    }

    private List<Integer> rowAsIs() {
        List<Integer> row = new ArrayList<>();
        for (int i = 0; i < w.n(); i++) {
            row.add(i);
        }
        return row;
    }

    private int fewestFor(int need) {
        for (int h = 0; h <= 8; h++) {
            int many = 0;
            for (int code = 0; code < 1 << h; code++) {
                many += may(code) ? 1 : 0;
            }
            if (many >= need) {
                return h;
            }
        }
        throw new IllegalStateException();
    }

    private int presorted(int wagon) {
        List<Integer> codes = new ArrayList<>();
        for (int code = 0; code < 8; code++) {
            if (may(code)) {
                codes.add(code);
            }
        }
        return codes.get(chain(wagon));
    }

    public int chains(int train) {
        if (train == 2) {
            return need(rowAsIs());
        }
        return not(train, 0, 1) ? NONE : chainsOf(w.trains.get(train)).size();
    }

    public int fewest(int what) {
        if (what == 0) {
            return fewestFor(need(rowAsIs()));
        }
        if (what == 1) {
            int many = 0;
            for (int code = 0; code < 8; code++) {
                many += may(code) ? 1 : 0;
            }
            return many;
        }
        return not(what, 10, 17) ? NONE : may(what - 10) ? 1 : 0;
    }

    public int presort() {
        if (w.humped) {
            return STATE;
        }
        if (fewest(0) > 3) {
            return NOT;
        }
        for (int i = 0; i < w.n(); i++) {
            w.code[i] = presorted(i);
        }
        return steps(w.code);
    }

    private int firstNotRight(int[] code) {
        for (List<Integer> row : w.trains) {
            for (int i = 1; i < row.size(); i++) {
                int a = row.get(i - 1);
                int b = row.get(i);
                if (code[b] < code[a] || (b < a && code[b] == code[a])) {
                    return b;
                }
            }
        }
        return -1;
    }

    private int load(int[] code, int track) {
        int sum = 0;
        for (int i = 0; i < w.n(); i++) {
            sum += (code[i] & (1 << track)) != 0 ? w.length[i] : 0;
        }
        return sum;
    }

    private int steps(int[] code) {
        int steps = 0;
        for (int i = 0; i < w.n(); i++) {
            for (int track = 0; track < 3; track++) {
                if ((code[i] & (1 << track)) != 0) {
                    steps = Math.max(steps, track + 1);
                }
            }
        }
        return steps;
    }

    private int rolls(int[] code) {
        int sum = w.n();
        for (int i = 0; i < w.n(); i++) {
            sum += ones(code[i]);
        }
        return sum;
    }

    private boolean fit(int[] code) {
        for (int c : code) {
            if (!may(c)) {
                return false;
            }
        }
        for (int track = 0; track < 3; track++) {
            if (load(code, track) > w.room[track]) {
                return false;
            }
        }
        return firstNotRight(code) < 0;
    }

    public int right(int what) {
        switch (what) {
            case 0: return firstNotRight(w.code) < 0 ? 1 : 0;
            case 1: return fit(w.code) ? 1 : 0;
            case 2: return steps(w.code);
            case 3: return rolls(w.code);
            default: return NONE;
        }
    }

    /** All codes are tried, by wagon 0's, then 1's ..; only pairs that stand wrong in a train cut it short. */
    private int[] boundedCodes() {
        best = null;
        tryFrom(0, new int[w.n()]);
        return best;
    }

    private int[] best;

    private void tryFrom(int wagon, int[] code) {
        if (wagon == w.n()) {
            if (fit(code) && (best == null || steps(code) < steps(best)
                    || (steps(code) == steps(best) && rolls(code) < rolls(best)))) {
                best = code.clone();
            }
            return;
        }
        for (int c = 0; c < 8; c++) {
            code[wagon] = c;
            boolean may = true;
            for (int other = 0; other < wagon; other++) {
                may &= pairMayBe(other, wagon, code);
            }
            if (may) {
                tryFrom(wagon + 1, code);
            }
        }
    }

    private boolean pairMayBe(int a, int b, int[] code) {
        for (List<Integer> row : w.trains) {
            int i = row.indexOf(a);
            int j = row.indexOf(b);
            if (i >= 0 && j >= 0) {
                return i < j ? code[a] <= code[b] : code[b] <= code[a];
            }
        }
        return true;
    }

    public int bounded(int what) {
        if (what != 0 && what != 1 && (not(what, 10, 17) || noWagon(what - 10))) {
            return NONE;
        }
        int[] code = boundedCodes();
        if (code == null) {
            return NOT;
        }
        return what == 0 ? steps(code) : what == 1 ? rolls(code) : code[what - 10];
    }

    public int bind() {
        if (w.humped) {
            return STATE;
        }
        int[] code = boundedCodes();
        if (code == null) {
            return NOT;
        }
        w.code = code;
        return rolls(code);
    }

    private static long part(int above, int below, int part) {
        int by = java.math.BigInteger.valueOf(above).gcd(java.math.BigInteger.valueOf(below)).intValue();
        return part == 0 ? above / by : below / by;
    }

    public long mean(int part) {
        return not(part, 0, 1) || w.n() == 0 ? NO : part(rolls(w.code), w.n(), part);
    }

    // the hump

    private int laneFrom(int wagon, int code, int firstTrack) {
        for (int track = firstTrack; track < 3; track++) {
            if ((code & (1 << track)) != 0) {
                return track;
            }
        }
        return w.trains.get(0).contains(wagon) ? 3 : 4;
    }

    private List<List<Integer>> humped(int[] code) {
        List<List<Integer>> lanes = emptyLanes();
        for (int i = 0; i < w.n(); i++) {
            lanes.get(laneFrom(i, code[i], 0)).add(i);
        }
        return lanes;
    }

    private List<List<Integer>> pulled(List<List<Integer>> from, int track, int[] code) {
        List<List<Integer>> lanes = copyLanes(from);
        List<Integer> rolling = lanes.set(track, new ArrayList<>());
        for (int wagon : rolling) {
            lanes.get(laneFrom(wagon, code[wagon], track + 1)).add(wagon);
        }
        return lanes;
    }

    private boolean over(List<List<Integer>> lanes) {
        for (int track = 0; track < 3; track++) {
            if (lanes.get(track).stream().mapToInt(v -> w.length[v]).sum() > w.room[track]) {
                return true;
            }
        }
        return false;
    }

    private static int outOf(List<List<Integer>> lanes) {
        return lanes.get(3).size() + lanes.get(4).size();
    }

    public int hump() {
        if (w.humped) {
            return STATE;
        }
        List<List<Integer>> lanes = humped(w.code);
        if (over(lanes)) {
            return FULL;
        }
        w.lies = lanes;
        w.humped = true;
        return outOf(lanes);
    }

    public int pull(int track) {
        if (not(track, 0, 2)) {
            return NONE;
        }
        if (!w.humped) {
            return STATE;
        }
        List<List<Integer>> lanes = pulled(w.lies, track, w.code);
        if (over(lanes)) {
            return FULL;
        }
        int rolled = w.lies.get(track).size();
        w.lies = lanes;
        w.pulls++;
        return rolled;
    }

    public int clear() {
        int were = outOf(w.lies);
        w.lies = emptyLanes();
        w.humped = false;
        w.pulls = 0;
        return were;
    }

    public int out(int train, int place) {
        if (not(train, 0, 1)) {
            return NONE;
        }
        List<Integer> row = w.lies.get(3 + train);
        return place == -1 ? row.size() : not(place, 0, row.size() - 1) ? NONE : row.get(place);
    }

    private int wrongIn(List<List<Integer>> lanes, int train) {
        for (int i = 0; i < lanes.get(3 + train).size(); i++) {
            if (!lanes.get(3 + train).get(i).equals(w.trains.get(train).get(i))) {
                return i;
            }
        }
        return NONE;
    }

    public int wrong(int train) {
        return not(train, 0, 1) ? BAD : wrongIn(w.lies, train);
    }

    public int replay(int what) {
        if (not(what, 0, 5)) {
            return NONE;
        }
        String text = readTape();
        int fault = faultOfFigures(text, "012", 0, 20);
        if (fault >= 0) {
            return -100 - fault;
        }
        List<List<Integer>> lanes = humped(w.code);
        int first = over(lanes) ? 0 : NOT;
        int rolled = 0;
        for (int k = 0; k < text.length(); k++) {
            int track = text.charAt(k) - '0';
            rolled += lanes.get(track).size();
            lanes = pulled(lanes, track, w.code);
            if (first == NOT && over(lanes)) {
                first = k + 1;
            }
        }
        int bits = 0;
        for (int track = 0; track < 3; track++) {
            bits += lanes.get(track).isEmpty() ? 0 : 1 << track;
        }
        int[] wrongs = {wrongIn(lanes, 0), wrongIn(lanes, 1)};
        int[] answers = {outOf(lanes), first, bits,
            wrongs[0] == NONE ? NOT : wrongs[0], wrongs[1] == NONE ? NOT : wrongs[1], rolled};
        return answers[what];
    }

    private String rollText(int wagon, int firstTrack) {
        return "" + (char) ('a' + wagon) + "012+-".charAt(laneFrom(wagon, w.code[wagon], firstTrack));
    }

    public int spell() {
        paper = "H";
        List<List<Integer>> lanes = humped(w.code);
        for (int i = 0; i < w.n(); i++) {
            paper += rollText(i, 0);
        }
        for (int track = 0; track < 3; track++) {
            if (!lanes.get(track).isEmpty()) {
                paper += ";" + track;
            }
            for (int wagon : lanes.get(track)) {
                paper += rollText(wagon, track + 1);
            }
            lanes = pulled(lanes, track, w.code);
        }
        return paper.length();
    }

    public int paper(int i) {
        return not(i, 0, paper.length() - 1) ? NONE : paper.charAt(i);
    }

    // what would be

    public int elsewhere(int what) {
        if (not(what, 0, 2)) {
            return BAD;
        }
        int[] found = null;
        for (int wagon = 0; wagon < w.n(); wagon++) {
            for (int place = 0; place < w.n(); place++) {
                List<Integer> row = rowAsIs();
                row.remove((Object) wagon);
                row.add(place, wagon);
                int need = need(row);
                int least = found == null ? need(rowAsIs()) : found[2];
                if (place != wagon && need < least) {
                    found = new int[] {wagon, place, need};
                }
            }
        }
        return found == null ? NOT : found[what];
    }

    private List<Integer> drawnRow(int seed) {
        List<Integer> row = rowAsIs();
        int z = seed;
        for (int i = w.n() - 1; i >= 1; i--) {
            z = z * 1103515245 + 12345;
            java.util.Collections.swap(row, i, (z >>> 9) % (i + 1));
        }
        return row;
    }

    public int drawn(int seed, int what) {
        if (what != 0 && what != 1 && (not(what, 10, 17) || noWagon(what - 10))) {
            return NONE;
        }
        List<Integer> row = drawnRow(seed);
        return what == 0 ? need(row) : what == 1 ? fewestFor(need(row)) : row.indexOf(what - 10);
    }

    public long odds(int seed, int m, int k, int part) {
        if (not(m, 1, 20) || not(k, 0, 8) || not(part, 0, 1)) {
            return NO;
        }
        int hits = 0;
        for (int i = 0; i < m; i++) {
            hits += need(drawnRow(seed + i)) <= k ? 1 : 0;
        }
        return part(hits, m, part);
    }

    public int seen(int wagon, int train, int list) {
        if (noWagon(wagon) || not(train, 0, 1) || not(list, 0, 3)) {
            return NONE;
        }
        if (!lists.containsKey(list)) {
            return NOTHING;
        }
        List<Integer> told = new ArrayList<>();
        for (int v : lists.get(list)) {
            told.add(v);
        }
        int bits = 0;
        for (int c = 0; c < 8; c++) {
            int[] code = w.code.clone();
            code[wagon] = c;
            List<List<Integer>> lanes = humped(code);
            for (int track = 0; track < 3; track++) {
                lanes = pulled(lanes, track, code);
            }
            bits += lanes.get(3 + train).equals(told) ? 1 << c : 0;
        }
        return bits;
    }

    public int judge(int list) {
        if (not(list, 0, 3)) {
            return NONE;
        }
        if (!lists.containsKey(list)) {
            return NOTHING;
        }
        int[] told = lists.get(list);
        for (int i = 0; i < w.n(); i++) {
            if (i >= told.length || not(told[i], 0, 7) || !may(told[i])) {
                return i;
            }
        }
        if (firstNotRight(told) >= 0) {
            return 100 + firstNotRight(told);
        }
        for (int track = 0; track < 3; track++) {
            if (load(told, track) > w.room[track]) {
                return 200 + track;
            }
        }
        return NOT;
    }

    // lists, the image

    public int list(int list, int n) {
        if (not(list, 0, 3)) {
            return NONE;
        }
        if (n > 12) {
            return BAD;
        }
        if (n < 0) {
            return BELOW;
        }
        lists.put(list, new int[n]);
        return 1;
    }

    public int put(int list, int i, int v) {
        if (not(list, 0, 3)) {
            return NONE;
        }
        if (!lists.containsKey(list)) {
            return NOTHING;
        }
        if (not(i, 0, lists.get(list).length - 1)) {
            return BEYOND;
        }
        lists.get(list)[i] = v;
        return 1;
    }

    public long get(int list, int i) {
        int[] row = lists.get(list);
        return row == null || not(i, 0, row.length - 1) ? NO : row[i];
    }

    public int lay(int what, int train, int list, int i) {
        if (not(what, 0, 1) || (what == 0 && not(train, 0, 1)) || not(list, 0, 3)) {
            return NONE;
        }
        if (!lists.containsKey(list)) {
            return NOTHING;
        }
        List<Integer> things = new ArrayList<>();
        if (what == 0) {
            things.addAll(w.lies.get(3 + train));
        } else {
            for (int c : w.code) {
                things.add(c);
            }
        }
        int[] row = lists.get(list);
        boolean all = true;
        for (int k = 0; k < things.size(); k++) {
            long place = (long) i + k;
            if (i < 0 || place >= row.length) {
                all = false;
            } else {
                row[(int) place] = things.get(k);
            }
        }
        return all ? things.size() : BEYOND;
    }

    public int image() {
        picture = w.copy();
        return w.n();
    }

    public int undo() {
        if (picture == null) {
            return STATE;
        }
        w = picture.copy();
        return w.n();
    }

    public int count(int what) {
        int onTracks = w.lies.get(0).size() + w.lies.get(1).size() + w.lies.get(2).size();
        int[] answers = {w.n(), outOf(w.lies), onTracks, tape.length(), paper.length(), w.brand,
            w.humped ? 1 : 0, w.pulls};
        return not(what, 0, 7) ? BAD : answers[what];
    }
}
