/** Promises 26 to 30 and elsewhere, drawn rows, seen, judged of section 3: each sentence that names an edge has a test here. */
public final class WouldBeEdgesTest {
    private static final Check check = new Check("WouldBeEdgesTest");
    private static final long NO = HumpYard.NO;

    public static void main(String[] args) {
        elsewhereNone();
        elsewhereLikeOnes();
        elsewherePlaces();
        elsewhereAsked();
        drawnFewWagons();
        drawnSeeds();
        drawnAsked();
        oddsNumbers();
        oddsRefused();
        oddsWrapAround();
        seenPlaces();
        seenCodes();
        seenRefused();
        judgeNumbers();
        judgeRight();
        judgeLoads();
        judgeBehindN();
        judgeRefused();
        check.end();
    }

    // ---- promise 26

    private static void elsewhereDue(String text, int wagon, int place, int need) {
        HumpYard x = Check.yard(text);
        check.due("elsewhere(0) of " + text, x.elsewhere(0), wagon);
        check.due("elsewhere(1) of " + text, x.elsewhere(1), place);
        check.due("elsewhere(2) of " + text, x.elsewhere(2), need);
    }

    private static void elsewhereNone() {
        check.promise(26, "elsewhere");
        check.sentence("NEED would be least, if less than so");
        elsewhereDue("", -5, -5, -5);
        elsewhereDue("a", -5, -5, -5);
        elsewhereDue("|a", -5, -5, -5);
        elsewhereDue("ab", -5, -5, -5);
        elsewhereDue("b|a", -5, -5, -5);
        elsewhereDue("abcdefgh", -5, -5, -5);
        // one wagon cannot mend both trains
        elsewhereDue("ba|dc", -5, -5, -5);
        elsewhereDue("ba", 0, 1, 1);
        elsewhereDue("|ba", 0, 1, 1);
        elsewhereDue("hgfedcba", 0, 1, 7);
    }

    private static void elsewhereLikeOnes() {
        check.sentence("of like ones the least WAGON, then place");
        // b could come to 0 as well
        elsewhereDue("ba|c", 0, 1, 1);
        // a could come to 1 or 2, b to 0
        elsewhereDue("ba|cd", 0, 1, 1);
        elsewhereDue("cd|ba", 0, 1, 1);
        // the last place, as no lesser one makes it one chain
        elsewhereDue("acdb", 1, 3, 1);
    }

    private static void elsewherePlaces() {
        check.sentence("a place (0 .. n - 1, not its own)");
        // the last wagon to the first place, the first one to the last
        elsewhereDue("habcdefg", 7, 0, 1);
        elsewhereDue("bcdefgha", 0, 7, 1);
        check.sentence("(all others close up; all are numbered anew)");
        // a at place 2 stands between c and d, not between b and c
        elsewhereDue("bcad", 0, 2, 1);
        elsewhereDue("dabc", 3, 0, 1);
        elsewhereDue("adbc", 3, 1, 1);
    }

    private static void elsewhereAsked() {
        check.sentence("BAD: what; NOT: there is none.");
        HumpYard x = Check.yard("ba");
        HumpYard none = Check.yard("ab");
        HumpYard empty = new HumpYard();
        for (int wrong : Check.outside(0, 2)) {
            check.due("elsewhere(" + wrong + ")", x.elsewhere(wrong), -2);
            check.due("elsewhere(" + wrong + "), there is none", none.elsewhere(wrong), -2);
            check.due("elsewhere(" + wrong + ") of no wagons", empty.elsewhere(wrong), -2);
        }
        x.hump();
        check.due("elsewhere(0) HUMPED", x.elsewhere(0), 0);
        x.image();
        x.yard();
        check.due("elsewhere(0) of no wagons, behind another answer", x.elsewhere(0), -5);
        x.undo();
        // wanted trains stay: it is asked once more
        check.due("elsewhere(2) again", x.elsewhere(2), 1);
        check.due("chains(2) stays", x.chains(2), 2);
    }

    // ---- promise 27

    private static void drawnFewWagons() {
        check.promise(27, "drawn");
        check.sentence("for i from n - 1 down to 1");
        for (int seed : new int[] {Integer.MIN_VALUE, -1, 0, 1, Integer.MAX_VALUE}) {
            HumpYard none = new HumpYard();
            check.due("drawn(" + seed + ", 0) of no wagons", none.drawn(seed, 0), 0);
            check.due("drawn(" + seed + ", 1) of no wagons", none.drawn(seed, 1), 0);
            check.due("drawn(" + seed + ", 10) of no wagons", none.drawn(seed, 10), -1);
            HumpYard one = Check.yard("|a");
            check.due("drawn(" + seed + ", 0) of one", one.drawn(seed, 0), 1);
            check.due("drawn(" + seed + ", 1) of one", one.drawn(seed, 1), 0);
            check.due("drawn(" + seed + ", 10) of one", one.drawn(seed, 10), 0);
            check.due("drawn(" + seed + ", 11) of one", one.drawn(seed, 11), -1);
        }
        // one draw: z of seed 0 is 12345, whose bits from 9 on are 24; of seed 1 it is 1103527590, ..: 2155327
        HumpYard two = Check.yard("ab");
        check.due("drawn(0, 10): a and b change places", two.drawn(0, 10), 1);
        check.due("drawn(0, 11)", two.drawn(0, 11), 0);
        check.due("drawn(0, 0)", two.drawn(0, 0), 2);
        check.due("drawn(1, 10): b stays where it is", two.drawn(1, 10), 0);
        check.due("drawn(1, 0)", two.drawn(1, 0), 1);
    }

    /** The document's draw in longs: an int is kept as 0 .. 2 to the 32, so that nothing can be below 0. */
    private static int[] numbersDrawn(long seed, int n) {
        long z = seed & 0xffffffffL;
        int[] row = new int[n];
        for (int i = 0; i < n; i++) {
            row[i] = i;
        }
        for (int i = n - 1; i >= 1; i--) {
            z = (z * 1103515245L + 12345L) & 0xffffffffL;
            int j = (int) (z / 512 % (i + 1));
            int other = row[i];
            row[i] = row[j];
            row[j] = other;
        }
        int[] numbers = new int[n];
        for (int i = 0; i < n; i++) {
            numbers[row[i]] = i;
        }
        return numbers;
    }

    private static void drawnSeeds() {
        check.sentence("z becoming z * 1103515245 + 12345 (an int; SEED at first) ahead of each");
        for (int n = 2; n <= 8; n++) {
            HumpYard x = Check.yard("abcdefgh".substring(0, n));
            for (int seed : new int[] {Integer.MIN_VALUE, Integer.MIN_VALUE + 1, -2, -1, 0, 1, 2, Integer.MAX_VALUE}) {
                int[] numbers = numbersDrawn(seed, n);
                int chains = 1;
                for (int w = 0; w < n; w++) {
                    check.due("drawn(" + seed + ", 10 + " + w + ") of " + n, x.drawn(seed, 10 + w), numbers[w]);
                    chains += w > 0 && numbers[w] < numbers[w - 1] ? 1 : 0;
                }
                check.due("drawn(" + seed + ", 0) of " + n, x.drawn(seed, 0), chains);
            }
        }
        check.sentence("FEWEST (1)");
        // the row of seed -1 is h c g d f b e a: six chains
        HumpYard x = Check.yard("abcdefgh");
        int[] fewest = {3, 5, 3, 3};
        for (int k = 0; k < 4; k++) {
            x.brand(k);
            check.due("drawn(-1, 1), brand " + k, x.drawn(-1, 1), fewest[k]);
        }
        check.due("fewest(0) stays", x.fewest(0), 0);
    }

    private static void drawnAsked() {
        check.sentence("the number that WAGON what - 10 would have (10 .. 17). NONE (no such WAGON, too).");
        HumpYard x = Check.yard("abc");
        for (int wrong : new int[] {Integer.MIN_VALUE, Integer.MIN_VALUE + 9, Integer.MIN_VALUE + 10, -1, 2, 9, 13, 17, 18,
            266, Integer.MAX_VALUE}) {
            check.due("drawn(0, " + wrong + ")", x.drawn(0, wrong), -1);
        }
        HumpYard most = Check.yard("abcdefgh");
        check.due("drawn(-1, 17)", most.drawn(-1, 17), 0);
        check.due("drawn(-1, 18)", most.drawn(-1, 18), -1);
    }

    // ---- promise 28

    private static void oddsDue(HumpYard x, int seed, int m, int k, long above, long below) {
        String call = "odds(" + seed + ", " + m + ", " + k + ", ";
        check.due(call + "0)", x.odds(seed, m, k, 0), above);
        check.due(call + "1)", x.odds(seed, m, k, 1), below);
    }

    private static void oddsNumbers() {
        check.promise(28, "odds");
        check.sentence("Of m SEEDS (1 .. 20)");
        HumpYard two = Check.yard("ab");
        // seeds 0, 1, ..: whether a stays ahead of b
        int ahead = 0;
        for (int m = 1; m <= 20; m++) {
            ahead += numbersDrawn(m - 1, 2)[0] == 0 ? 1 : 0;
            long by = gcd(ahead, m);
            oddsDue(two, 0, m, 1, ahead / by, m / by);
        }
        check.sentence("NEED is k (0 .. 8) at most");
        oddsDue(two, 0, 20, 0, 0, 1);
        oddsDue(two, 0, 20, 2, 1, 1);
        oddsDue(two, 0, 20, 8, 1, 1);
        HumpYard most = Check.yard("abcdefgh");
        oddsDue(most, 0, 20, 0, 0, 1);
        oddsDue(most, 0, 20, 8, 1, 1);
        // need by seed 7 is 3, by seed -1 it is 6
        oddsDue(most, 7, 1, 2, 0, 1);
        oddsDue(most, 7, 1, 3, 1, 1);
        oddsDue(most, -1, 1, 5, 0, 1);
        oddsDue(most, -1, 1, 6, 1, 1);
        HumpYard none = new HumpYard();
        oddsDue(none, 0, 20, 0, 1, 1);
        oddsDue(none, 0, 1, 0, 1, 1);
        HumpYard one = Check.yard("a");
        oddsDue(one, 0, 20, 0, 0, 1);
        oddsDue(one, 0, 20, 1, 1, 1);
    }

    private static long gcd(long a, long b) {
        return b == 0 ? a : gcd(b, a % b);
    }

    private static void oddsRefused() {
        check.sentence("NO.");
        HumpYard x = Check.yard("ab");
        for (int wrong : Check.outside(1, 20)) {
            check.due("odds(0, " + wrong + ", 1, 0)", x.odds(0, wrong, 1, 0), NO);
        }
        for (int wrong : Check.outside(0, 8)) {
            check.due("odds(0, 1, " + wrong + ", 0)", x.odds(0, 1, wrong, 0), NO);
        }
        for (int wrong : Check.outside(0, 1)) {
            check.due("odds(0, 1, 1, " + wrong + ")", x.odds(0, 1, 1, wrong), NO);
        }
        check.due("odds(0, 0, 1, 0) of no wagons", new HumpYard().odds(0, 0, 1, 0), NO);
    }

    private static void oddsWrapAround() {
        check.sentence("seed and each 1 more (an int)");
        HumpYard two = Check.yard("ab");
        for (int back = 0; back < 20; back++) {
            int seed = Integer.MAX_VALUE - back;
            int ahead = 0;
            for (int i = 0; i < 20; i++) {
                ahead += numbersDrawn((long) seed + i, 2)[0] == 0 ? 1 : 0;
            }
            long by = gcd(ahead, 20);
            oddsDue(two, seed, 20, 1, ahead / by, 20 / by);
        }
        HumpYard most = Check.yard("abcdefgh");
        for (int k = 0; k <= 8; k++) {
            long hits = most.odds(Integer.MAX_VALUE, 1, k, 0) + most.odds(Integer.MIN_VALUE, 1, k, 0);
            oddsDue(most, Integer.MAX_VALUE, 2, k, hits == 2 ? 1 : hits, hits == 1 ? 2 : 1);
        }
    }

    // ---- promise 29

    private static void seenPlaces() {
        check.promise(29, "seen");
        check.sentence("(all of it: as many places as it is)");
        HumpYard x = Check.yard("ab|c", "000");
        Check.fill(x, 0, 0, 1);
        check.due("seen(0, 0, 0): as many places", x.seen(0, 0, 0), 0x01);
        check.due("seen(1, 0, 0): as many places", x.seen(1, 0, 0), 0xff);
        Check.fill(x, 0, 0, 1, 2);
        check.due("seen(1, 0, 0): a place more", x.seen(1, 0, 0), 0);
        Check.fill(x, 0, 0);
        check.due("seen(1, 0, 0): a place fewer", x.seen(1, 0, 0), 0);
        x.list(0, 0);
        check.due("seen(1, 0, 0): no place", x.seen(1, 0, 0), 0);
        x.list(0, 12);
        check.due("seen(1, 0, 0): 12 places", x.seen(1, 0, 0), 0);
        check.sentence("what is OUT of a TRAIN");
        HumpYard empty = Check.yard("a");
        empty.list(1, 0);
        check.due("seen(0, 1, 1): nothing of an empty train", empty.seen(0, 1, 1), 0xff);
        empty.list(1, 1);
        check.due("seen(0, 1, 1): a place of an empty train", empty.seen(0, 1, 1), 0);
        check.due("seen(0, 0, 1): WAGON 0", empty.seen(0, 0, 1), 0xff);
        for (int v : new int[] {-1, 1, 256, Integer.MIN_VALUE, Integer.MAX_VALUE}) {
            empty.put(1, 0, v);
            check.due("seen(0, 0, 1): no WAGON " + v, empty.seen(0, 0, 1), 0);
        }
    }

    private static void seenCodes() {
        check.sentence("CODES (bits 0 .. 7) of a WAGON, others as they are");
        HumpYard x = Check.yard("ab", "00");
        Check.fill(x, 0, 1, 0);
        // a is behind b by codes above b's, as both come by their numbers
        for (int code = 0; code < 8; code++) {
            x.set(1, 1, code);
            check.due("seen(0, 0, 0), b has " + code, x.seen(0, 0, 0), 0xff & ~((2 << code) - 1));
        }
        x.set(0, 1, 7);
        x.set(1, 1, 0);
        check.due("seen(1, 0, 0), a has 7", x.seen(1, 0, 0), 0x7f);
        check.sentence("behind a WHOLE RUN");
        Check.rooms(x, 0, 0, 0);
        x.brand(1);
        check.due("seen(1, 0, 0): neither ROOM nor BRAND matters", x.seen(1, 0, 0), 0x7f);
        Check.rooms(x, 24, 24, 24);
        x.hump();
        x.pull(0);
        check.due("seen(1, 0, 0) HUMPED", x.seen(1, 0, 0), 0x7f);
        check.due("codes stay", Check.codes(x), 70);
        check.due("wagon(0, 5) stays", x.wagon(0, 5), 1);
        // all eight wagons, which one list of 12 places can tell
        HumpYard most = Check.yard("hgfedcba", "76543210");
        Check.fill(most, 2, 7, 6, 5, 4, 3, 2, 1, 0);
        for (int w = 0; w < 8; w++) {
            check.due("seen(w, 0, 2)", most.seen(w, 0, 2), 1 << (7 - w));
        }
        HumpYard last = Check.yard("abcdefgh", "00000007");
        Check.fill(last, 2, 0, 1, 2, 3, 4, 5, 6, 7);
        check.due("seen(6, 0, 2): h has 7", last.seen(6, 0, 2), 0xff);
        check.due("seen(7, 0, 2): whatever h has", last.seen(7, 0, 2), 0xff);
        last.set(7, 1, 3);
        check.due("seen(6, 0, 2): h has 3", last.seen(6, 0, 2), 0x0f);
    }

    private static void seenRefused() {
        check.sentence("NONE: wagon, train, list; NOTHING.");
        HumpYard x = Check.yard("ab");
        x.list(0, 2);
        for (int list = 0; list < 2; list++) {
            for (int wrong : Check.outside(0, 1)) {
                check.due("seen(" + wrong + ", 0, list)", x.seen(wrong, 0, list), -1);
                check.due("seen(0, " + wrong + ", list)", x.seen(0, wrong, list), -1);
            }
        }
        for (int wrong : Check.outside(0, 3)) {
            check.due("seen(0, 0, " + wrong + ")", x.seen(0, 0, wrong), -1);
        }
        for (int list = 1; list < 4; list++) {
            check.due("seen(0, 0, list): nothing is held", x.seen(0, 0, list), -11);
            x.list(list, 0);
            check.due("seen(0, 0, list): a row of none is held", x.seen(0, 0, list), 0);
        }
        HumpYard none = new HumpYard();
        none.list(0, 0);
        check.due("seen(0, 0, 0) of no wagons", none.seen(0, 0, 0), -1);
    }

    // ---- promise 30

    private static void judgeDue(HumpYard x, int due, int... codes) {
        Check.fill(x, 0, codes);
        check.due("judge of " + java.util.Arrays.toString(codes), x.judge(0), due);
    }

    private static void judgeNumbers() {
        check.promise(30, "judge");
        check.sentence("the first WAGON whose number may be no CODE by BRAND, or that lacks");
        HumpYard x = Check.yard("abc");
        for (int wrong : Check.outside(0, 7)) {
            judgeDue(x, 0, wrong, wrong, wrong);
            judgeDue(x, 1, 0, wrong, 0);
            judgeDue(x, 2, 0, 0, wrong);
        }
        judgeDue(x, -5, 7, 7, 7);
        judgeDue(x, -5, 0, 0, 0);
        judgeDue(x, 0);
        judgeDue(x, 1, 7);
        judgeDue(x, 2, 7, 7);
        judgeDue(x, 0, 8);
        // what lacks is told ahead of what isn't right
        judgeDue(x, 2, 7, 6);
        String[] mayBe = {"01234567", "0124", "0123456", "012346"};
        for (int k = 0; k < 4; k++) {
            x.brand(k);
            for (int code = 0; code < 8; code++) {
                judgeDue(x, mayBe[k].indexOf('0' + code) >= 0 ? -5 : 2, 0, 0, code);
            }
        }
        HumpYard eight = Check.yard("abcdefgh");
        judgeDue(eight, 7, 0, 0, 0, 0, 0, 0, 0);
        judgeDue(eight, 7, 0, 0, 0, 0, 0, 0, 0, 8);
        judgeDue(eight, -5, 0, 0, 0, 0, 0, 0, 0, 0);
    }

    private static void judgeRight() {
        check.sentence("100 and the first WAGON, by TRAINS, then as these are wanted, that isn't RIGHT behind the one ahead");
        HumpYard x = Check.yard("ba|dc");
        judgeDue(x, 100, 0, 0, 0, 0);
        judgeDue(x, 102, 1, 0, 0, 0);
        judgeDue(x, -5, 1, 0, 1, 0);
        HumpYard late = Check.yard("cd|ba");
        judgeDue(late, 103, 0, 0, 1, 0);
        judgeDue(late, 100, 0, 0, 1, 1);
        HumpYard most = Check.yard("|abcdefgh");
        judgeDue(most, 101, 7, 0, 7, 0, 7, 0, 7, 0);
        judgeDue(most, 107, 7, 7, 7, 7, 7, 7, 7, 6);
        HumpYard falling = Check.yard("hgfedcba");
        judgeDue(falling, 106, 0, 0, 0, 0, 0, 0, 0, 0);
        judgeDue(falling, 100, 6, 6, 5, 4, 3, 2, 1, 0);
        judgeDue(falling, -5, 7, 6, 5, 4, 3, 2, 1, 0);
    }

    private static void judgeLoads() {
        check.sentence("200 and the first TRACK with a LOAD above ROOM");
        HumpYard x = Check.yard("ab|c");
        x.set(2, 0, 3);
        Check.rooms(x, 5, 5, 5);
        judgeDue(x, -5, 7, 7, 7);
        for (int t = 0; t < 3; t++) {
            Check.rooms(x, 5, 5, 5);
            x.room(t, 4);
            judgeDue(x, 200 + t, 7, 7, 7);
        }
        Check.rooms(x, 4, 4, 4);
        judgeDue(x, 200, 7, 7, 7);
        judgeDue(x, 201, 6, 6, 7);
        judgeDue(x, 202, 4, 4, 7);
        judgeDue(x, -5, 1, 1, 6);
        // told codes matter, not those that are
        Check.rooms(x, 0, 0, 0);
        judgeDue(x, -5, 0, 0, 0);
        judgeDue(x, 200, 1, 2, 0);
        judgeDue(x, 101, 2, 1, 0);
        judgeDue(x, 0, 9, 1, 0);
        check.due("codes stay", Check.codes(x), 0);
    }

    private static void judgeBehindN() {
        check.sentence("(what is behind n isn't looked at)");
        HumpYard x = Check.yard("ba");
        judgeDue(x, -5, 1, 0, 99, -1, 8, Integer.MAX_VALUE, 0, 0, 0, 0, 0, Integer.MIN_VALUE);
        judgeDue(x, 100, 1, 1, 7);
        HumpYard eight = Check.yard("abcdefgh");
        judgeDue(eight, -5, 0, 0, 0, 0, 0, 0, 0, 0, -1, -1, -1, -1);
        HumpYard none = new HumpYard();
        judgeDue(none, -5);
        judgeDue(none, -5, 9);
        judgeDue(none, -5, -1, -1, -1, -1, -1, -1, -1, -1, -1, -1, -1, -1);
    }

    private static void judgeRefused() {
        check.sentence("NONE: list; NOTHING.");
        HumpYard x = Check.yard("ba", "10");
        for (int wrong : Check.outside(0, 3)) {
            check.due("judge(" + wrong + ")", x.judge(wrong), -1);
        }
        for (int list = 0; list < 4; list++) {
            check.due("judge(list): nothing is held", x.judge(list), -11);
            x.list(list, 0);
            check.due("judge(list): a row of none is held", x.judge(list), 0);
        }
        x.hump();
        check.due("judge(0) HUMPED", x.judge(0), 0);
    }
}
