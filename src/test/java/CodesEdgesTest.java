/** Promises 11 to 17 and section 2 of the document: each sentence that names an edge has a test here. */
public final class CodesEdgesTest {
    private static final Check check = new Check("CodesEdgesTest");
    private static final String FALLING = "hgfedcba";

    public static void main(String[] args) {
        chainsCut();
        chainsAsked();
        fewestByNeed();
        fewestAsked();
        presort();
        presortRefused();
        rightNeighbours();
        fit();
        stepsAndRolls();
        rightAsked();
        boundedOrder();
        boundedNeighbours();
        boundedAnew();
        boundedRoom();
        boundedBrand();
        boundedAsked();
        bind();
        mean();
        check.end();
    }

    // ---- promise 11

    private static void chainsDue(String text, int first, int second, int need) {
        HumpYard x = Check.yard(text);
        check.due("chains(0) of " + text, x.chains(0), first);
        check.due("chains(1) of " + text, x.chains(1), second);
        check.due("chains(2) of " + text, x.chains(2), need);
    }

    private static void chainsCut() {
        check.promise(11, "chains");
        check.sentence("cut between two neighbours of which the second one has the lesser number");
        chainsDue("ab", 1, 0, 1);
        chainsDue("ba", 2, 0, 2);
        chainsDue("abcdefgh", 1, 0, 1);
        chainsDue(FALLING, 8, 0, 8);
        chainsDue("|" + FALLING, 0, 8, 8);
        chainsDue("badcfehg", 5, 0, 5);
        // no cut between the last of train 0 and the first of train 1
        chainsDue("bd|ac", 1, 1, 1);
        check.sentence("of both TRAINS the most CHAINS (0: no WAGONS)");
        chainsDue("", 0, 0, 0);
        chainsDue("|", 0, 0, 0);
        chainsDue("a", 1, 0, 1);
        chainsDue("|a", 0, 1, 1);
        chainsDue("ba|c", 2, 1, 2);
        chainsDue("a|cb", 1, 2, 2);
        chainsDue("dc|ba", 2, 2, 2);
    }

    private static void chainsAsked() {
        check.sentence("CHAINS of a TRAIN (0, 1), NEED (2). NONE.");
        HumpYard x = Check.yard("ba|c");
        for (int wrong : Check.outside(0, 2)) {
            check.due("chains(" + wrong + ")", x.chains(wrong), -1);
        }
        x.hump();
        check.due("chains(0) HUMPED", x.chains(0), 2);
    }

    // ---- promise 12

    private static void fewestByNeed() {
        check.promise(12, "fewest");
        check.sentence("the least h (0 .. 8) for which there are NEED CODES (or more) below 2 to the h that may be");
        // how many codes may be below 2 to the 0, 1, .. 8
        int[][] below = {
            {1, 2, 4, 8, 16, 32, 64, 128, 256},
            {1, 2, 3, 4, 5, 6, 7, 8, 9},
            {1, 2, 4, 7, 11, 16, 22, 29, 37},
            {1, 2, 4, 6, 8, 10, 12, 14, 16}};
        for (int k = 0; k < 4; k++) {
            for (int need = 0; need <= 8; need++) {
                int least = 0;
                while (below[k][least] < need) {
                    least++;
                }
                String text = FALLING.substring(8 - need);
                HumpYard first = Check.yard(text);
                first.brand(k);
                check.due("fewest(0), brand " + k + ", need " + need, first.fewest(0), least);
                HumpYard second = Check.yard("|" + text);
                second.brand(k);
                check.due("fewest(0), brand " + k + ", need " + need + " of train 1", second.fewest(0), least);
            }
        }
    }

    private static void fewestAsked() {
        check.sentence("whether a CODE what - 10 may be (10 .. 17; 1, 0). NONE.");
        HumpYard x = Check.yard("ba");
        for (int wrong : new int[] {Integer.MIN_VALUE, Integer.MIN_VALUE + 10, -1, 2, 9, 18, 25, 266, Integer.MAX_VALUE}) {
            check.due("fewest(" + wrong + ")", x.fewest(wrong), -1);
        }
        check.due("fewest(10)", x.fewest(10), 1);
        check.due("fewest(17)", x.fewest(17), 1);
        x.brand(1);
        check.due("fewest(10), SIMPLE", x.fewest(10), 1);
        check.due("fewest(17), SIMPLE", x.fewest(17), 0);
        check.due("fewest(14), SIMPLE", x.fewest(14), 1);
    }

    // ---- promise 13

    private static void presort() {
        check.promise(13, "presort");
        check.sentence("All CODES become PRESORTED: STEPS then.");
        int[] most = {8, 4, 7, 6};
        long[] codes = {76543210, 4210, 6543210, 643210};
        for (int k = 0; k < 4; k++) {
            HumpYard x = Check.yard(FALLING.substring(8 - most[k]));
            x.brand(k);
            check.due("presort(): as many chains as codes, brand " + k, x.presort(), 3);
            check.due("codes", Check.codes(x), codes[k]);
            check.due("right(0)", x.right(0), 1);
        }
        check.due("presort() of no wagons", new HumpYard().presort(), 0);
        HumpYard chain = Check.yard("abc|def", "777777");
        check.due("presort() of one chain each", chain.presort(), 0);
        check.due("codes", Check.codes(chain), 0);
        HumpYard tight = Check.yard("ba");
        Check.rooms(tight, 0, 0, 0);
        check.due("presort(): ROOM doesn't matter", tight.presort(), 1);
        check.due("codes", Check.codes(tight), 10);
    }

    private static void presortRefused() {
        check.sentence("STATE: it is HUMPED; NOT: FEWEST is above 3.");
        int[] most = {8, 4, 7, 6};
        for (int k = 1; k < 4; k++) {
            HumpYard x = Check.yard("|" + FALLING.substring(8 - most[k] - 1));
            x.brand(k);
            x.set(0, 1, 5);
            check.due("presort(): a chain more than codes, brand " + k, x.presort(), -5);
            check.due("wagon(0, 1) stays", x.wagon(0, 1), 5);
            x.hump();
            check.due("presort() HUMPED, FEWEST above 3", x.presort(), -3);
        }
        HumpYard x = Check.yard("ba", "01");
        x.hump();
        check.due("presort() HUMPED", x.presort(), -3);
        check.due("codes stay", Check.codes(x), 1);
        x.clear();
        check.due("presort() CLEARED", x.presort(), 1);
        check.due("codes", Check.codes(x), 10);
    }

    // ---- promise 14

    private static void rightDue(String text, String codes, int right) {
        HumpYard x = Check.yard(text, codes);
        check.due("right(0) of " + text + " by " + codes, x.right(0), right);
        check.due("right(1) of " + text + " by " + codes, x.right(1), right);
    }

    private static void rightNeighbours() {
        check.promise(14, "right");
        check.sentence("of two neighbours the second one's CODE isn't lesser, and is greater, if it has the lesser number");
        rightDue("", "", 1);
        rightDue("a", "7", 1);
        rightDue("ab", "33", 1);
        rightDue("ab", "34", 1);
        rightDue("ab", "43", 0);
        rightDue("ba", "33", 0);
        rightDue("ba", "43", 1);
        rightDue("ba", "34", 0);
        rightDue("abcdefgh", "00000000", 1);
        rightDue("abcdefgh", "77777777", 1);
        rightDue("abcdefgh", "77777776", 0);
        rightDue("abcdefgh", "10000000", 0);
        rightDue(FALLING, "76543210", 1);
        rightDue(FALLING, "66543210", 0);
        rightDue(FALLING, "76543211", 0);
        check.sentence("in each TRAIN");
        rightDue("a|b", "70", 1);
        rightDue("b|a", "07", 1);
        rightDue("ab|dc", "0000", 0);
        rightDue("ab|dc", "0010", 1);
        rightDue("ba|dc", "0010", 0);
    }

    private static void fit() {
        check.sentence("They FIT, if they are RIGHT, all may be, and no LOAD is above ROOM");
        for (int t = 0; t < 3; t++) {
            HumpYard x = Check.yard("abc");
            for (int w = 0; w < 3; w++) {
                x.set(w, 0, 1 + w);
                x.set(w, 1, 1 << t);
            }
            x.room(t, 6);
            check.due("right(1): LOAD is ROOM of " + t, x.right(1), 1);
            x.room(t, 5);
            check.due("right(1): LOAD is 1 above ROOM of " + t, x.right(1), 0);
            check.due("right(0)", x.right(0), 1);
        }
        HumpYard none = Check.yard("ab");
        Check.rooms(none, 0, 0, 0);
        check.due("right(1): no LOAD, no ROOM", none.right(1), 1);
        HumpYard last = Check.yard("abc", "007");
        last.brand(2);
        check.due("right(1): the last one may not be", last.right(1), 0);
        last.brand(0);
        check.due("right(1): all may be", last.right(1), 1);
        HumpYard empty = new HumpYard();
        Check.rooms(empty, 0, 0, 0);
        check.due("right(1) of no wagons", empty.right(1), 1);
    }

    private static void stepsAndRolls() {
        check.sentence("1 more than the greatest TRACK whose BIT any has (0: none)");
        int[] steps = {0, 1, 2, 2, 3, 3, 3, 3};
        for (int code = 0; code < 8; code++) {
            HumpYard first = Check.yard("ab", code + "0");
            HumpYard second = Check.yard("|ab", "0" + code);
            check.due("right(2) by " + code, first.right(2), steps[code]);
            check.due("right(2) by " + code + " of the last", second.right(2), steps[code]);
        }
        check.due("right(2) of no wagons", new HumpYard().right(2), 0);
        check.sentence("1s of all, together, and how many WAGONS there are");
        check.due("right(3) of no wagons", new HumpYard().right(3), 0);
        check.due("right(3) by 0s", Check.yard("ab|c", "000").right(3), 3);
        check.due("right(3) by 7s", Check.yard("abcd|efgh", "77777777").right(3), 32);
    }

    private static void rightAsked() {
        check.sentence("NONE.");
        HumpYard x = Check.yard("ba");
        for (int wrong : Check.outside(0, 3)) {
            check.due("right(" + wrong + ")", x.right(wrong), -1);
        }
    }

    // ---- promises 15 and 16

    /** What is due of bounded and then of bind; codes are given as figures. */
    private static void boundDue(HumpYard x, int steps, int rolls, String codes) {
        check.due("bounded(0)", x.bounded(0), steps);
        check.due("bounded(1)", x.bounded(1), rolls);
        for (int w = 0; w < codes.length(); w++) {
            check.due("bounded(10 + " + w + ")", x.bounded(10 + w), codes.charAt(w) - '0');
        }
        check.due("bounded behind the last", x.bounded(10 + codes.length()), -1);
        check.due("bind()", x.bind(), rolls);
        check.due("codes", Check.codes(x), codes.isEmpty() ? 0 : Long.parseLong(codes));
        check.due("right(1)", x.right(1), 1);
        check.due("right(2)", x.right(2), steps);
    }

    private static void noneFit(HumpYard x) {
        long before = Check.codes(x);
        check.due("bounded(0): none FIT", x.bounded(0), -5);
        check.due("bounded(1): none FIT", x.bounded(1), -5);
        check.due("bounded(10): none FIT", x.bounded(10), -5);
        check.due("bind(): none FIT", x.bind(), -5);
        check.due("codes stay", Check.codes(x), before);
    }

    private static void boundedOrder() {
        check.promise(15, "bounded");
        check.sentence("of all CODES that FIT those with fewest STEPS");
        boundDue(new HumpYard(), 0, 0, "");
        boundDue(Check.yard("abcdefgh"), 0, 8, "00000000");
        boundDue(Check.yard("a", "7"), 0, 1, "0");
        boundDue(Check.yard("ba|c", "777"), 1, 4, "100");
        // 3 has two 1s, yet 4 would take a step more
        boundDue(Check.yard("dcba"), 2, 8, "3210");
        boundDue(Check.yard("|" + FALLING), 3, 20, "76543210");
        check.sentence("of like ones with fewest ROLLS");
        // 3 for a would be lesser than 4, but e would need 4 then: a 1 more
        HumpYard longer = Check.yard("dcba|fe");
        longer.set(4, 0, 3);
        Check.rooms(longer, 4, 4, 24);
        boundDue(longer, 3, 10, "421010");
        check.sentence("of like ones the first by WAGON 0's CODE, then 1's, and so on");
        HumpYard like = Check.yard("ba|dc");
        Check.rooms(like, 1, 1, 1);
        boundDue(like, 2, 6, "1020");
        // a is too long for track 0
        like.set(0, 0, 3);
        Check.rooms(like, 2, 3, 1);
        boundDue(like, 2, 6, "2010");
    }

    private static HumpYard tight(String text, int brand, String lengths, int... rooms) {
        HumpYard x = new HumpYard();
        tighten(x, text, brand, lengths, rooms);
        return x;
    }

    private static void tighten(HumpYard x, String text, int brand, String lengths, int... rooms) {
        Check.feed(x, text);
        x.yard();
        x.brand(brand);
        for (int w = 0; w < lengths.length(); w++) {
            x.set(w, 0, lengths.charAt(w) - '0');
        }
        Check.rooms(x, rooms[0], rooms[1], rooms[2]);
    }

    private static void boundedNeighbours() {
        check.sentence("They FIT, if they are RIGHT");
        // a fits track 1 alone; c, which may not be lesser, fits track 2 alone then, though track 0 has room
        boundDue(tight("bac", 1, "311", 1, 3, 2), 3, 5, "204");
        // a must be greater than b, though both would fit track 1
        boundDue(tight("cba", 1, "112", 0, 8, 1), 3, 5, "420");
        // c is long, but that doesn't keep a from track 0
        boundDue(tight("bac", 0, "113", 1, 1, 5), 3, 5, "104");
        // the last code that may be for e is what makes a and f 4, with fewer 1s than 3
        boundDue(tight("dcbafe", 3, "211121", 4, 6, 10), 3, 12, "421064");
    }

    /** What was found for more wagons must not matter when there are fewer. */
    private static void boundedAnew() {
        check.sentence("BOUNDED: of all CODES that FIT those with fewest STEPS; of like ones with fewest ROLLS");
        HumpYard x = Check.yard(FALLING);
        boundDue(x, 3, 20, "76543210");
        tighten(x, "dbac", 0, "1311", 1, 12, 18);
        boundDue(x, 3, 7, "4240");
        tighten(x, FALLING, 0, "11111111", 4, 4, 4);
        boundDue(x, 3, 20, "76543210");
        tighten(x, "ed|cba", 0, "13123", 2, 5, 4);
        boundDue(x, 3, 8, "42010");
        x.yard();
        boundDue(x, 0, 0, "");
        tighten(x, "dcba|fe", 0, "111131", 4, 4, 24);
        boundDue(x, 3, 10, "421010");
    }

    private static void boundedRoom() {
        check.sentence("no LOAD is above ROOM");
        for (int t = 0; t < 3; t++) {
            HumpYard x = Check.yard("ba");
            x.set(0, 0, 3);
            Check.rooms(x, t == 0 ? 3 : 2, t == 1 ? 3 : 2, t == 2 ? 3 : 2);
            boundDue(x, t + 1, 3, (1 << t) + "0");
            x.room(t, 2);
            noneFit(x);
        }
        HumpYard one = Check.yard("abcd");
        Check.rooms(one, 0, 0, 0);
        boundDue(one, 0, 4, "0000");
        // all eight codes: four wagons over each track
        HumpYard most = Check.yard(FALLING);
        Check.rooms(most, 4, 4, 4);
        boundDue(most, 3, 20, "76543210");
        for (int t = 0; t < 3; t++) {
            Check.rooms(most, 4, 4, 4);
            most.room(t, 3);
            noneFit(most);
        }
        // lengths change nothing for h, whose code has no bit, but for all others
        Check.rooms(most, 4, 4, 4);
        most.set(7, 0, 3);
        boundDue(most, 3, 20, "76543210");
        most.set(6, 0, 2);
        noneFit(most);
    }

    private static void boundedBrand() {
        check.sentence("all may be");
        int[] most = {8, 4, 7, 6};
        String[] codes = {"76543210", "4210", "6543210", "643210"};
        int[] rolls = {20, 7, 16, 13};
        for (int k = 0; k < 4; k++) {
            HumpYard x = Check.yard(FALLING.substring(8 - most[k]));
            x.brand(k);
            boundDue(x, 3, rolls[k], codes[k]);
            if (k > 0) {
                HumpYard more = Check.yard(FALLING.substring(8 - most[k] - 1));
                more.brand(k);
                noneFit(more);
            }
        }
    }

    private static void boundedAsked() {
        check.sentence("NONE (no such WAGON, too); NOT: none FIT.");
        HumpYard x = Check.yard("ba");
        int[] wrongs = {Integer.MIN_VALUE, Integer.MIN_VALUE + 9, Integer.MIN_VALUE + 10, -1, 2, 9, 12, 17, 18, 266,
            Integer.MAX_VALUE};
        for (int wrong : wrongs) {
            check.due("bounded(" + wrong + ")", x.bounded(wrong), -1);
        }
        Check.rooms(x, 0, 0, 0);
        for (int wrong : wrongs) {
            check.due("bounded(" + wrong + "): NONE ahead of NOT", x.bounded(wrong), -1);
        }
        noneFit(x);
        HumpYard most = Check.yard("abcdefgh");
        check.due("bounded(17)", most.bounded(17), 0);
        check.due("bounded(18)", most.bounded(18), -1);
        check.due("bounded(10) of no wagons", new HumpYard().bounded(10), -1);
    }

    private static void bind() {
        check.promise(16, "bind");
        check.sentence("STATE: it is HUMPED; NOT: none FIT.");
        HumpYard x = Check.yard("ba", "00");
        x.hump();
        check.due("bind() HUMPED", x.bind(), -3);
        check.due("codes stay", Check.codes(x), 0);
        check.due("bounded(0) HUMPED", x.bounded(0), 1);
        x.clear();
        Check.rooms(x, 0, 0, 0);
        noneFit(x);
        x.hump();
        check.due("bind() HUMPED, none FIT", x.bind(), -3);
        check.due("bounded(0) HUMPED, none FIT", x.bounded(0), -5);
        x.clear();
        x.room(2, 1);
        check.due("bind() CLEARED", x.bind(), 3);
        check.due("codes", Check.codes(x), 40);
        check.due("bind() of no wagons", new HumpYard().bind(), 0);
    }

    // ---- promise 17

    private static void meanDue(String text, String codes, long above, long below) {
        HumpYard x = Check.yard(text, codes);
        check.due("mean(0) by " + codes, x.mean(0), above);
        check.due("mean(1) by " + codes, x.mean(1), below);
    }

    private static void mean() {
        check.promise(17, "mean");
        check.sentence("part 0 above, 1 below the line, in lowest terms");
        meanDue("a", "0", 1, 1);
        meanDue("a", "7", 4, 1);
        meanDue("abcdefgh", "00000000", 1, 1);
        meanDue("abcdefgh", "77777777", 4, 1);
        meanDue("abcdefgh", "00000001", 9, 8);
        meanDue("abcdefgh", "00000003", 5, 4);
        meanDue("abcdefgh", "00000007", 11, 8);
        meanDue("abcdefgh", "00000017", 3, 2);
        meanDue("abcdef", "777000", 5, 2);
        meanDue("abcdef", "300000", 4, 3);
        meanDue("abcde", "77777", 4, 1);
        check.sentence("NO: part, no WAGONS.");
        HumpYard x = Check.yard("ab");
        HumpYard none = new HumpYard();
        for (int wrong : Check.outside(0, 1)) {
            check.due("mean(" + wrong + ")", x.mean(wrong), HumpYard.NO);
            check.due("mean(" + wrong + ") of no wagons", none.mean(wrong), HumpYard.NO);
        }
        check.due("mean(0) of no wagons", none.mean(0), HumpYard.NO);
        check.due("mean(1) of no wagons", none.mean(1), HumpYard.NO);
    }
}
