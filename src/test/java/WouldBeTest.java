/** Promises 26 to 30: elsewhere, drawn rows, odds, codes as seen, codes judged. */
public final class WouldBeTest {
    private static final Check check = new Check("WouldBeTest");

    public static void main(String[] args) {
        elsewhere();
        drawn();
        odds();
        seen();
        judge();
        check.end();
    }

    private static void elsewhere() {
        check.promise(26, "elsewhere");
        elsewhereDue("ba", 0, 1, 1);
        elsewhereDue("cab", 2, 0, 1);
        elsewhereDue("bac", 0, 1, 1);
        // a could come to 1 or 2
        elsewhereDue("ba|c", 0, 1, 1);
        elsewhereDue("|bca", 0, 2, 1);
        elsewhereDue("cba", 0, 1, 2);
        elsewhereDue("hgfedcba", 0, 1, 7);
        elsewhereDue("abdc", 2, 3, 1);
        elsewhereNot("");
        elsewhereNot("a");
        elsewhereNot("abc|de");
        elsewhereNot("ba|dc");
        HumpYard x = Check.yard("ba");
        check.due("elsewhere(0)", x.elsewhere(0), 0);
        Check.feed(x, "ab");
        x.yard();
        check.due("elsewhere(0) of another yard", x.elsewhere(0), -5);
        check.due("elsewhere(3)", x.elsewhere(3), -2);
        check.due("elsewhere(-1)", x.elsewhere(-1), -2);
        check.due("elsewhere(3) of none", new HumpYard().elsewhere(3), -2);
    }

    private static void elsewhereDue(String text, int wagon, int place, int need) {
        HumpYard x = Check.yard(text);
        check.due("elsewhere(0) of " + text, x.elsewhere(0), wagon);
        check.due("elsewhere(1) of " + text, x.elsewhere(1), place);
        check.due("elsewhere(2) of " + text, x.elsewhere(2), need);
    }

    private static void elsewhereNot(String text) {
        HumpYard x = Check.yard(text);
        for (int what = 0; what < 3; what++) {
            check.due("elsewhere(what) of " + text, x.elsewhere(what), -5);
        }
    }

    private static void drawn() {
        check.promise(27, "drawn");
        drawnDue("abc", 0, 3, 2, 2, 1, 0);
        drawnDue("cba", 0, 1, 0, 2, 1, 0);
        // the row is e d f a b g h c
        drawnDue("abcdefgh", 7, 3, 2, 3, 4, 7, 1, 0, 2, 5, 6);
        // the row is h c g d f b e a
        drawnDue("abcdefgh", -1, 6, 3, 7, 5, 1, 3, 6, 4, 2, 0);
        drawnDue("abcd", Integer.MAX_VALUE, 4, 2, 3, 2, 1, 0);
        drawnDue("a", 5, 1, 0, 0);
        drawnDue("", 5, 0, 0);
        HumpYard x = Check.yard("abcd");
        x.brand(1);
        check.due("drawn(MAX, 1), SIMPLE", x.drawn(Integer.MAX_VALUE, 1), 3);
        check.due("chains(2) stays", x.chains(2), 1);
        for (int wrong : new int[] {-1, 2, 9, 14, 17, 18, Integer.MIN_VALUE, Integer.MIN_VALUE + 10, Integer.MAX_VALUE}) {
            check.due("drawn(0, wrong)", x.drawn(0, wrong), -1);
        }
    }

    private static void drawnDue(String text, int seed, int need, int fewest, int... numbers) {
        HumpYard x = Check.yard(text);
        check.due("drawn(" + seed + ", 0) of " + text, x.drawn(seed, 0), need);
        check.due("drawn(" + seed + ", 1) of " + text, x.drawn(seed, 1), fewest);
        for (int w = 0; w < numbers.length; w++) {
            check.due("drawn(" + seed + ", 10 + " + w + ") of " + text, x.drawn(seed, 10 + w), numbers[w]);
        }
    }

    private static void odds() {
        check.promise(28, "odds");
        // NEED by seeds 0 .. 9: 5 4 6 4 5 4 6 3 5 4
        HumpYard x = Check.yard("abcdefgh");
        oddsDue(x, 0, 10, 4, 1, 2);
        oddsDue(x, 0, 10, 5, 4, 5);
        oddsDue(x, 0, 10, 3, 1, 10);
        oddsDue(x, 0, 10, 6, 1, 1);
        oddsDue(x, 0, 10, 0, 0, 1);
        oddsDue(x, 0, 10, 8, 1, 1);
        oddsDue(x, 7, 1, 3, 1, 1);
        oddsDue(x, 8, 1, 3, 0, 1);
        // seeds go on from the greatest int to the least
        oddsDue(x, 2147483640, 12, 5, 5, 6);
        oddsDue(x, 2147483640, 12, 4, 1, 3);
        // NEED of three wagons by seeds 0 .. 19: 1 by three of them, 3 by four
        HumpYard three = Check.yard("abc");
        oddsDue(three, 0, 20, 1, 3, 20);
        oddsDue(three, 0, 20, 2, 4, 5);
        oddsDue(new HumpYard(), 3, 20, 0, 1, 1);
        long no = HumpYard.NO;
        check.due("odds(0, 0, 1, 0)", x.odds(0, 0, 1, 0), no);
        check.due("odds(0, -1, 1, 0)", x.odds(0, -1, 1, 0), no);
        check.due("odds(0, 21, 1, 0)", x.odds(0, 21, 1, 0), no);
        check.due("odds(0, 1, -1, 0)", x.odds(0, 1, -1, 0), no);
        check.due("odds(0, 1, 9, 0)", x.odds(0, 1, 9, 0), no);
        check.due("odds(0, 1, 1, 2)", x.odds(0, 1, 1, 2), no);
        check.due("odds(0, 1, 1, -1)", x.odds(0, 1, 1, -1), no);
    }

    private static void oddsDue(HumpYard x, int seed, int m, int k, long above, long below) {
        String call = "odds(" + seed + ", " + m + ", " + k + ", ";
        check.due(call + "0)", x.odds(seed, m, k, 0), above);
        check.due(call + "1)", x.odds(seed, m, k, 1), below);
    }

    private static void seen() {
        check.promise(29, "seen");
        HumpYard x = Check.yard("ba|c", "100");
        Check.fill(x, 0, 1, 0);
        check.due("seen(0, 0, 0): a behind b", x.seen(0, 0, 0), 0xfe);
        check.due("seen(1, 0, 0): b ahead of a by 1", x.seen(1, 0, 0), 0x01);
        check.due("seen(2, 0, 0): c doesn't matter", x.seen(2, 0, 0), 0xff);
        check.due("seen(0, 1, 0)", x.seen(0, 1, 0), 0);
        check.due("codes stay", Check.codes(x), 100);
        x.set(1, 1, 3);
        check.due("seen(0, 0, 0): b has 3", x.seen(0, 0, 0), 0xf0);
        Check.fill(x, 1, 0, 1);
        check.due("seen(0, 0, 1)", x.seen(0, 0, 1), 0x0f);
        Check.fill(x, 2, 7, 0);
        check.due("seen(0, 0, 2): the first is otherwise", x.seen(0, 0, 2), 0);
        Check.fill(x, 2, 1, 0, 0);
        check.due("seen(0, 0, 2): a place too many", x.seen(0, 0, 2), 0);
        Check.fill(x, 2, 1);
        check.due("seen(0, 0, 2): a place too few", x.seen(0, 0, 2), 0);
        Check.fill(x, 2, 2);
        check.due("seen(0, 1, 2)", x.seen(0, 1, 2), 0xff);
        Check.rooms(x, 0, 0, 0);
        check.due("seen(0, 0, 0): ROOM doesn't matter", x.seen(0, 0, 0), 0xf0);
        HumpYard alone = Check.yard("a");
        alone.list(3, 0);
        check.due("seen(0, 1, 3): an empty train", alone.seen(0, 1, 3), 0xff);
        check.due("seen(0, 0, 3)", alone.seen(0, 0, 3), 0);
        check.due("seen(0, 0, 2)", alone.seen(0, 0, 2), -11);
        check.due("seen(1, 0, 2)", alone.seen(1, 0, 2), -1);
        check.due("seen(-1, 0, 3)", alone.seen(-1, 0, 3), -1);
        check.due("seen(0, 2, 2)", alone.seen(0, 2, 2), -1);
        check.due("seen(0, -1, 3)", alone.seen(0, -1, 3), -1);
        check.due("seen(0, 0, 4)", alone.seen(0, 0, 4), -1);
        check.due("seen(0, 0, -1)", alone.seen(0, 0, -1), -1);
    }

    private static void judge() {
        check.promise(30, "judge");
        HumpYard x = Check.yard("ba|dc");
        judgeDue(x, -5, 1, 0, 1, 0);
        judgeDue(x, -5, 1, 0, 1, 0, 99, -7);
        judgeDue(x, 0);
        judgeDue(x, 3, 1, 0, 1);
        judgeDue(x, 1, 1, 8, 1, -1);
        judgeDue(x, 2, 1, 0, -1, 0);
        judgeDue(x, 3, 0, 0, 0, 1000);
        judgeDue(x, 100, 1, 1, 1, 0);
        judgeDue(x, 100, 0, 0, 0, 0);
        judgeDue(x, 102, 1, 0, 0, 0);
        judgeDue(x, 102, 7, 6, 3, 4);
        x.brand(1);
        judgeDue(x, 0, 3, 0, 1, 0);
        x.brand(0);
        x.set(0, 0, 2);
        Check.rooms(x, 3, 2, 1);
        judgeDue(x, -5, 1, 0, 1, 0);
        judgeDue(x, -5, 3, 0, 1, 0);
        judgeDue(x, 202, 4, 0, 1, 0);
        judgeDue(x, 201, 7, 0, 2, 0);
        x.room(0, 2);
        judgeDue(x, 200, 7, 0, 7, 0);
        judgeDue(x, 100, 0, 0, 7, 0);
        check.due("codes stay", Check.codes(x), 0);
        check.due("judge(1)", x.judge(1), -11);
        check.due("judge(4)", x.judge(4), -1);
        check.due("judge(-1)", x.judge(-1), -1);
        HumpYard none = new HumpYard();
        none.list(0, 0);
        check.due("judge(0) of no wagons", none.judge(0), -5);
        none.list(0, 12);
        check.due("judge(0) of no wagons", none.judge(0), -5);
    }

    private static void judgeDue(HumpYard x, int due, int... codes) {
        Check.fill(x, 0, codes);
        check.due("judge of " + java.util.Arrays.toString(codes), x.judge(0), due);
    }
}
