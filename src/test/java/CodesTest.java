/** Promises 11 to 17: chains, codes that may be, presorted, right and bounded ones. */
public final class CodesTest {
    private static final Check check = new Check("CodesTest");

    public static void main(String[] args) {
        chains();
        fewest();
        presort();
        right();
        bounded();
        bind();
        mean();
        check.end();
    }

    private static void chains() {
        check.promise(11, "chains");
        chainsDue("", 0, 0);
        chainsDue("a", 1, 0);
        chainsDue("|ab", 0, 1);
        chainsDue("ba|c", 2, 1);
        chainsDue("abcdefgh", 1, 0);
        chainsDue("hgfedcba", 8, 0);
        chainsDue("ac|hbgdfe", 1, 4);
        HumpYard x = Check.yard("ba");
        check.due("chains(3)", x.chains(3), -1);
        check.due("chains(-1)", x.chains(-1), -1);
    }

    private static void chainsDue(String text, int first, int second) {
        HumpYard x = Check.yard(text);
        check.due("chains(0) of " + text, x.chains(0), first);
        check.due("chains(1) of " + text, x.chains(1), second);
        check.due("chains(2) of " + text, x.chains(2), Math.max(first, second));
    }

    private static void fewest() {
        check.promise(12, "fewest");
        // by NEED 0 .. 8
        int[][] due = {
            {0, 0, 1, 2, 2, 3, 3, 3, 3},
            {0, 0, 1, 2, 3, 4, 5, 6, 7},
            {0, 0, 1, 2, 2, 3, 3, 3, 4},
            {0, 0, 1, 2, 2, 3, 3, 4, 4}};
        int[][] may = {
            {1, 1, 1, 1, 1, 1, 1, 1},
            {1, 1, 1, 0, 1, 0, 0, 0},
            {1, 1, 1, 1, 1, 1, 1, 0},
            {1, 1, 1, 1, 1, 0, 1, 0}};
        int[] many = {8, 4, 7, 6};
        for (int k = 0; k < 4; k++) {
            for (int need = 0; need <= 8; need++) {
                HumpYard x = Check.yard("hgfedcba".substring(8 - need));
                x.brand(k);
                check.due("fewest(0), brand " + k + ", need " + need, x.fewest(0), due[k][need]);
            }
            HumpYard x = new HumpYard();
            x.brand(k);
            check.due("fewest(1), brand " + k, x.fewest(1), many[k]);
            for (int code = 0; code < 8; code++) {
                check.due("fewest(10 + " + code + "), brand " + k, x.fewest(10 + code), may[k][code]);
            }
        }
        HumpYard x = new HumpYard();
        for (int wrong : new int[] {-1, 2, 9, 18, Integer.MIN_VALUE, Integer.MAX_VALUE}) {
            check.due("fewest(wrong)", x.fewest(wrong), -1);
        }
    }

    private static void presort() {
        check.promise(13, "presort");
        presortDue("badc", 0, 2, 1021);
        presortDue("dcba", 0, 2, 3210);
        presortDue("dcba", 1, 3, 4210);
        presortDue("fedcba", 2, 3, 543210);
        presortDue("fedcba", 3, 3, 643210);
        presortDue("ab|c", 1, 0, 0);
        presortDue("cb|ad", 1, 1, 100);
        HumpYard x = Check.yard("edcba", "76543");
        x.brand(1);
        check.due("presort(): FEWEST is 4", x.presort(), -5);
        check.due("codes stay", Check.codes(x), 76543);
        x.hump();
        check.due("presort() HUMPED", x.presort(), -3);
        x.brand(0);
        check.due("presort() HUMPED", x.presort(), -3);
        check.due("codes stay", Check.codes(x), 76543);
        x.clear();
        check.due("presort()", x.presort(), 3);
        check.due("codes", Check.codes(x), 43210);
    }

    private static void presortDue(String text, int brand, int steps, long codes) {
        HumpYard x = Check.yard(text);
        for (int w = 0; w < x.count(0); w++) {
            x.set(w, 1, 7);
        }
        x.brand(brand);
        check.due("presort() of " + text, x.presort(), steps);
        check.due("codes of " + text, Check.codes(x), codes);
        check.due("right(1) of " + text, x.right(1), 1);
    }

    private static void right() {
        check.promise(14, "right");
        rightDue("ab", "00", 1, 1, 0, 2);
        rightDue("ab", "01", 1, 1, 1, 3);
        rightDue("ab", "10", 0, 0, 1, 3);
        rightDue("ba", "00", 0, 0, 0, 2);
        rightDue("ba", "10", 1, 1, 1, 3);
        rightDue("ba", "01", 0, 0, 1, 3);
        rightDue("ba|dc", "1000", 0, 0, 1, 5);
        rightDue("ba|dc", "1040", 1, 1, 3, 6);
        rightDue("abc", "777", 1, 1, 3, 12);
        rightDue("abc", "222", 1, 1, 2, 6);
        rightDue("", "", 1, 1, 0, 0);
        HumpYard x = Check.yard("ba", "30");
        x.set(0, 0, 2);
        Check.rooms(x, 2, 2, 0);
        check.due("right(1): LOAD is ROOM", x.right(1), 1);
        x.room(1, 1);
        check.due("right(1): LOAD above ROOM", x.right(1), 0);
        check.due("right(0)", x.right(0), 1);
        x.room(1, 2);
        x.brand(1);
        check.due("right(1): 3 isn't SIMPLE", x.right(1), 0);
        check.due("right(0)", x.right(0), 1);
        check.due("right(4)", x.right(4), -1);
        check.due("right(-1)", x.right(-1), -1);
    }

    private static void rightDue(String text, String codes, int right, int fit, int steps, int rolls) {
        HumpYard x = Check.yard(text, codes);
        check.due("right(0) of " + text + " by " + codes, x.right(0), right);
        check.due("right(1) of " + text + " by " + codes, x.right(1), fit);
        check.due("right(2) of " + text + " by " + codes, x.right(2), steps);
        check.due("right(3) of " + text + " by " + codes, x.right(3), rolls);
    }

    private static void bounded() {
        check.promise(15, "bounded");
        boundedDue(Check.yard(""), 0, 0, 0);
        boundedDue(Check.yard("abc|de"), 0, 5, 0);
        // fewest steps ahead of fewest rolls: 0 1 2 3, not 0 1 2 4
        boundedDue(Check.yard("dcba"), 2, 8, 3210);
        // of like ones the first by wagon 0's code: 0 1 2 3 4, not 0 1 2 4 5
        boundedDue(Check.yard("edcba"), 3, 10, 43210);
        HumpYard pairs = Check.yard("ba|dc");
        Check.rooms(pairs, 1, 1, 24);
        boundedDue(pairs, 2, 6, 1020);
        // fewest rolls ahead of the first: wagon 0 could have 3, with 4 for wagon 4
        HumpYard long4 = Check.yard("dcba|fe");
        long4.set(4, 0, 3);
        Check.rooms(long4, 4, 4, 24);
        boundedDue(long4, 3, 10, 421010);
        HumpYard simple = Check.yard("dcba");
        simple.brand(1);
        boundedDue(simple, 3, 7, 4210);
        // b may not have 1 behind a's 2, so two steps don't do
        HumpYard behind = Check.yard("cab");
        behind.set(0, 0, 2);
        Check.rooms(behind, 1, 2, 24);
        boundedDue(behind, 3, 5, 240);
        boundedDue(Check.yard("hgfedcba"), 3, 20, 76543210);
        HumpYard noFirst = Check.yard("ba");
        noFirst.room(0, 0);
        boundedDue(noFirst, 2, 3, 20);
        boundedEdges();
    }

    private static void boundedDue(HumpYard x, int steps, int rolls, long codes) {
        long before = Check.codes(x);
        check.due("bounded(0)", x.bounded(0), steps);
        check.due("bounded(1)", x.bounded(1), rolls);
        long figures = 0;
        for (int w = 0; w < x.count(0); w++) {
            figures = figures * 10 + x.bounded(10 + w);
        }
        check.due("bounded codes", figures, codes);
        check.due("codes stay", Check.codes(x), before);
    }

    private static void boundedEdges() {
        HumpYard x = Check.yard("ba");
        x.set(0, 0, 3);
        Check.rooms(x, 2, 2, 2);
        check.due("bounded(0): none FIT", x.bounded(0), -5);
        check.due("bounded(1): none FIT", x.bounded(1), -5);
        check.due("bounded(11): none FIT", x.bounded(11), -5);
        check.due("bounded(12): NONE ahead of NOT", x.bounded(12), -1);
        x.room(2, 3);
        boundedDue(x, 3, 3, 40);
        for (int wrong : new int[] {-1, 2, 9, 12, 17, 18, Integer.MIN_VALUE, Integer.MIN_VALUE + 10, Integer.MAX_VALUE}) {
            check.due("bounded(wrong)", x.bounded(wrong), -1);
        }
        x.hump();
        check.due("bounded(10) HUMPED", x.bounded(10), 4);
    }

    private static void bind() {
        check.promise(16, "bind");
        HumpYard x = Check.yard("dcba");
        check.due("bind()", x.bind(), 8);
        check.due("codes", Check.codes(x), 3210);
        x.brand(1);
        check.due("bind()", x.bind(), 7);
        check.due("codes", Check.codes(x), 4210);
        x.room(0, 0);
        check.due("bind(): none FIT", x.bind(), -5);
        check.due("codes stay", Check.codes(x), 4210);
        x.room(0, 1);
        x.hump();
        check.due("bind() HUMPED", x.bind(), -3);
        x.clear();
        x.room(0, 0);
        x.set(2, 1, 0);
        check.due("hump()", x.hump(), 2);
        check.due("bind() HUMPED, none FIT", x.bind(), -3);
        check.due("bind() of no wagons", new HumpYard().bind(), 0);
    }

    private static void mean() {
        check.promise(17, "mean");
        meanDue("dcba", "3210", 2, 1);
        meanDue("abc", "000", 1, 1);
        meanDue("a", "7", 4, 1);
        meanDue("abcd", "7100", 2, 1);
        meanDue("abcd", "3000", 3, 2);
        meanDue("abcd", "7777", 4, 1);
        meanDue("abcdefg", "7777776", 27, 7);
        HumpYard none = new HumpYard();
        check.due("mean(0) of no wagons", none.mean(0), HumpYard.NO);
        check.due("mean(1) of no wagons", none.mean(1), HumpYard.NO);
    }

    private static void meanDue(String text, String codes, long above, long below) {
        HumpYard x = Check.yard(text, codes);
        check.due("mean(0) by " + codes, x.mean(0), above);
        check.due("mean(1) by " + codes, x.mean(1), below);
        check.due("mean(2)", x.mean(2), HumpYard.NO);
        check.due("mean(-1)", x.mean(-1), HumpYard.NO);
    }
}
