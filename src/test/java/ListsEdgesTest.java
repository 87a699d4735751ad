/** Promises 31 to 37 and lists and the image of section 3: each sentence that names an edge has a test here. */
public final class ListsEdgesTest {
    private static final Check check = new Check("ListsEdgesTest");
    private static final long NO = HumpYard.NO;

    public static void main(String[] args) {
        listSizes();
        listRefused();
        put();
        putRefused();
        get();
        layNothing();
        layFits();
        layBeyond();
        layBelow();
        layRefused();
        imageHolds();
        imageHoldsEight();
        imageDoesNotHold();
        imageLatest();
        undoNone();
        count();
        countAsked();
        check.end();
    }

    private static void listDue(HumpYard x, int list, int... values) {
        for (int i = 0; i < values.length; i++) {
            check.due("get(" + list + ", " + i + ")", x.get(list, i), values[i]);
        }
        check.due("get behind all of " + list, x.get(list, values.length), NO);
    }

    // ---- promise 31

    private static void listSizes() {
        check.promise(31, "list");
        check.sentence("A LIST becomes a row of n ints, all 0: 1.");
        for (int list = 0; list < 4; list++) {
            HumpYard x = new HumpYard();
            for (int n = 12; n >= 0; n--) {
                check.due("list(list, " + n + ")", x.list(list, n), 1);
                listDue(x, list, new int[n]);
                for (int i = 0; i < n; i++) {
                    x.put(list, i, 5);
                }
            }
            // what an earlier row held doesn't come back
            check.due("list(list, 12)", x.list(list, 12), 1);
            listDue(x, list, new int[12]);
            for (int other = 0; other < 4; other++) {
                check.due("judge of another list", x.judge(other), other == list ? -5 : -11);
            }
        }
    }

    private static void listRefused() {
        check.sentence("NONE: list; BAD: n above 12; BELOW.");
        HumpYard x = new HumpYard();
        Check.fill(x, 1, 7, 8);
        for (int n : new int[] {13, 14, 256, 65536, Integer.MAX_VALUE}) {
            check.due("list(1, " + n + ")", x.list(1, n), -2);
            check.due("list(0, " + n + ")", x.list(0, n), -2);
        }
        for (int n : new int[] {-1, -2, -256, Integer.MIN_VALUE + 1, Integer.MIN_VALUE}) {
            check.due("list(1, " + n + ")", x.list(1, n), -14);
            check.due("list(0, " + n + ")", x.list(0, n), -14);
        }
        for (int wrong : Check.outside(0, 3)) {
            check.due("list(" + wrong + ", 2)", x.list(wrong, 2), -1);
            check.due("list(" + wrong + ", 13)", x.list(wrong, 13), -1);
            check.due("list(" + wrong + ", -1)", x.list(wrong, -1), -1);
        }
        listDue(x, 1, 7, 8);
        check.due("judge(0): nothing still", x.judge(0), -11);
    }

    // ---- promise 32

    private static void put() {
        check.promise(32, "put");
        check.sentence("Place i of a LIST becomes v: 1.");
        HumpYard x = new HumpYard();
        for (int list = 0; list < 4; list++) {
            x.list(list, 12);
            check.due("put(list, 0, MIN)", x.put(list, 0, Integer.MIN_VALUE), 1);
            check.due("put(list, 11, MAX)", x.put(list, 11, Integer.MAX_VALUE), 1);
            check.due("put(list, 5, list)", x.put(list, 5, list), 1);
        }
        for (int list = 0; list < 4; list++) {
            listDue(x, list, Integer.MIN_VALUE, 0, 0, 0, 0, list, 0, 0, 0, 0, 0, Integer.MAX_VALUE);
        }
    }

    private static void putRefused() {
        check.sentence("NONE; NOTHING; BEYOND.");
        HumpYard x = new HumpYard();
        for (int wrong : Check.outside(0, 3)) {
            check.due("put(" + wrong + ", 0, 1)", x.put(wrong, 0, 1), -1);
            check.due("put(" + wrong + ", -1, 1)", x.put(wrong, -1, 1), -1);
        }
        for (int i : new int[] {Integer.MIN_VALUE, -1, 0, 11, 12, Integer.MAX_VALUE}) {
            check.due("put(0, " + i + ", 1): NOTHING", x.put(0, i, 1), -11);
        }
        for (int n : new int[] {0, 1, 12}) {
            x.list(0, n);
            for (int i : new int[] {Integer.MIN_VALUE, -256, -1, n, n + 1, 256, 65536, Integer.MAX_VALUE}) {
                check.due("put(0, " + i + ", 1): BEYOND " + n, x.put(0, i, 1), -13);
            }
            listDue(x, 0, new int[n]);
        }
    }

    // ---- promise 33

    private static void get() {
        check.promise(33, "get");
        check.sentence("NO: no such LIST, nothing there, no such place.");
        HumpYard x = new HumpYard();
        for (int wrong : Check.outside(0, 3)) {
            check.due("get(" + wrong + ", 0)", x.get(wrong, 0), NO);
        }
        for (int list = 0; list < 4; list++) {
            check.due("get(list, 0): nothing there", x.get(list, 0), NO);
            check.due("get(list, -1): nothing there", x.get(list, -1), NO);
        }
        for (int n : new int[] {0, 1, 12}) {
            x.list(2, n);
            for (int i : new int[] {Integer.MIN_VALUE, -256, -1, n, n + 1, 256, 65536, Integer.MAX_VALUE}) {
                check.due("get(2, " + i + "): no such place of " + n, x.get(2, i), NO);
            }
        }
        for (int v : new int[] {Integer.MIN_VALUE, -1, 0, 1, Integer.MAX_VALUE}) {
            x.put(2, 11, v);
            check.due("get(2, 11)", x.get(2, 11), v);
        }
    }

    // ---- promise 34

    private static void layNothing() {
        check.promise(34, "lay");
        check.sentence("how many");
        HumpYard x = Check.yard("a");
        x.list(0, 0);
        check.due("lay(0, 0, 0, 0): nothing is OUT", x.lay(0, 0, 0, 0), 0);
        check.due("lay(0, 1, 0, 0): nothing is OUT", x.lay(0, 1, 0, 0), 0);
        x.hump();
        check.due("lay(0, 1, 0, 0): nothing of an empty train", x.lay(0, 1, 0, 0), 0);
        HumpYard none = new HumpYard();
        none.list(0, 0);
        check.due("lay(1, 0, 0, 0) of no wagons", none.lay(1, 0, 0, 0), 0);
        check.due("lay(0, 0, 0, 0) of no wagons", none.lay(0, 0, 0, 0), 0);
    }

    private static void layFits() {
        check.sentence("are LAID into a LIST from i on: how many");
        HumpYard x = Check.yard("ab|dc", "1203");
        Check.fill(x, 0, 9, 9, 9, 9);
        check.due("lay(1, 0, 0, 0): as many as places", x.lay(1, 0, 0, 0), 4);
        listDue(x, 0, 1, 2, 0, 3);
        Check.fill(x, 0, 9, 9, 9, 9, 9, 9, 9, 9, 9, 9, 9, 9);
        check.due("lay(1, 0, 0, 8): up to the last place", x.lay(1, 0, 0, 8), 4);
        listDue(x, 0, 9, 9, 9, 9, 9, 9, 9, 9, 1, 2, 0, 3);
        check.sentence("What is OUT of a TRAIN (what 0)");
        x.hump();
        x.pull(0);
        Check.fill(x, 1, 9, 9);
        check.due("lay(0, 0, 1, 1): a is OUT", x.lay(0, 0, 1, 1), 1);
        listDue(x, 1, 9, 0);
        check.due("lay(0, 1, 1, 0): c is OUT, not d", x.lay(0, 1, 1, 0), 1);
        listDue(x, 1, 2, 0);
        HumpYard most = Check.yard("|hgfedcba");
        most.hump();
        most.list(3, 8);
        check.due("lay(0, 1, 3, 0) of eight", most.lay(0, 1, 3, 0), 8);
        listDue(most, 3, 0, 1, 2, 3, 4, 5, 6, 7);
    }

    private static void layBeyond() {
        check.sentence("BEYOND: not all were (those that had a place are there all the same");
        HumpYard x = Check.yard("abcd", "1234");
        for (int i = 1; i <= 4; i++) {
            Check.fill(x, 0, 9, 9, 9, 9);
            check.due("lay(1, 0, 0, " + i + ")", x.lay(1, 0, 0, i), -13);
            int[] due = {9, 9, 9, 9};
            for (int k = i; k < 4; k++) {
                due[k] = 1 + k - i;
            }
            listDue(x, 0, due);
        }
        for (int i : new int[] {5, 12, 256, 65536, Integer.MAX_VALUE - 3, Integer.MAX_VALUE}) {
            check.due("lay(1, 0, 0, " + i + "): none has a place", x.lay(1, 0, 0, i), -13);
        }
        listDue(x, 0, 9, 9, 9, 9);
        x.list(1, 0);
        check.due("lay(1, 0, 1, 0) into a row of none", x.lay(1, 0, 1, 0), -13);
        listDue(x, 1);
        x.hump();
        x.pull(0);
        x.pull(1);
        Check.fill(x, 2, 9, 9, 9);
        check.due("lay(0, 0, 2, 1): a b c are OUT", x.lay(0, 0, 2, 1), -13);
        listDue(x, 2, 9, 0, 1);
    }

    private static void layBelow() {
        check.sentence("none, if i is below 0)");
        HumpYard x = Check.yard("abcd", "1234");
        Check.fill(x, 0, 9, 9, 9, 9);
        for (int i : new int[] {-1, -3, -4, -12, -256, Integer.MIN_VALUE + 3, Integer.MIN_VALUE}) {
            check.due("lay(1, 0, 0, " + i + ")", x.lay(1, 0, 0, i), -13);
            listDue(x, 0, 9, 9, 9, 9);
        }
        x.hump();
        x.pull(0);
        check.due("lay(0, 0, 0, -1)", x.lay(0, 0, 0, -1), -13);
        listDue(x, 0, 9, 9, 9, 9);
    }

    private static void layRefused() {
        check.sentence("NONE: train (by 0; by 1 it does not matter), what, list; NOTHING");
        HumpYard x = Check.yard("ab", "12");
        x.list(0, 2);
        for (int wrong : Check.outside(0, 1)) {
            check.due("lay(0, " + wrong + ", 0, 0)", x.lay(0, wrong, 0, 0), -1);
            check.due("lay(0, " + wrong + ", 1, 0): NONE ahead of NOTHING", x.lay(0, wrong, 1, 0), -1);
            check.due("lay(1, " + wrong + ", 0, 0)", x.lay(1, wrong, 0, 0), 2);
            check.due("lay(1, " + wrong + ", 1, 0)", x.lay(1, wrong, 1, 0), -11);
            check.due("lay(" + wrong + ", 0, 0, 0)", x.lay(wrong, 0, 0, 0), -1);
            check.due("lay(" + wrong + ", 0, 1, 0): NONE ahead of NOTHING", x.lay(wrong, 0, 1, 0), -1);
        }
        for (int wrong : Check.outside(0, 3)) {
            check.due("lay(0, 0, " + wrong + ", 0)", x.lay(0, 0, wrong, 0), -1);
            check.due("lay(1, 0, " + wrong + ", -1): NONE ahead of BEYOND", x.lay(1, 0, wrong, -1), -1);
        }
        check.due("lay(0, 0, 1, 0): nothing is held", x.lay(0, 0, 1, 0), -11);
        check.due("lay(1, 0, 1, -1): NOTHING ahead of BEYOND", x.lay(1, 0, 1, -1), -11);
        check.due("lay(1, 0, 1, 99): NOTHING ahead of BEYOND", x.lay(1, 0, 1, 99), -11);
        listDue(x, 0, 1, 2);
    }

    // ---- promises 35 and 36

    private static void imageHolds() {
        check.promise(35, "image");
        check.sentence("WAGONS, TRAINS, TRACKS, BRAND, what is HUMPED, lies, is OUT, PULLS since then");
        HumpYard x = Check.yard("ca|bd", "3105");
        x.set(0, 0, 2);
        x.set(3, 0, 3);
        Check.rooms(x, 6, 5, 4);
        x.brand(2);
        x.hump();
        x.pull(2);
        x.pull(0);
        check.due("image() HUMPED", x.image(), 4);
        String held = told(x);
        x.pull(1);
        x.pull(2);
        check.due("undo() behind pulls", x.undo(), 4);
        check.due("all of it", told(x), held);
        x.clear();
        check.due("undo() behind clear()", x.undo(), 4);
        check.due("all of it", told(x), held);
        x.clear();
        Check.rooms(x, 0, 24, 1);
        x.brand(0);
        Check.feed(x, "abcdefgh");
        x.yard();
        x.hump();
        check.due("undo() behind another yard", x.undo(), 4);
        check.due("all of it", told(x), held);
        x.yard();
        check.due("undo() behind a yard of none", x.undo(), 4);
        check.due("all of it", told(x), held);
        check.due("pull(1) goes on as it would", x.pull(1), 1);
        check.due("count(7)", x.count(7), 3);
    }

    private static void imageHoldsEight() {
        check.sentence("All is as THE IMAGE");
        for (String text : new String[] {"abcdefgh", "|hgfedcba", "hgfe|dcba"}) {
            for (String other : new String[] {"", "hgfedcba", "|abcdefgh", "h|gfedcba"}) {
                undoBehind(text, other);
            }
        }
    }

    private static void undoBehind(String text, String other) {
        HumpYard x = Check.yard(text, "76543217");
        for (int w = 0; w < 8; w++) {
            x.set(w, 0, 1 + w % 3);
        }
        x.hump();
        x.pull(0);
        check.due("image() of " + text, x.image(), 8);
        String held = told(x);
        x.pull(1);
        x.pull(2);
        Check.feed(x, other);
        x.yard();
        check.due("undo() of " + text + " behind " + other, x.undo(), 8);
        check.due("all of it", told(x), held);
    }

    /** All that the image holds, as it is told; an object has 512 calls, so only what there is is asked. */
    private static String told(HumpYard x) {
        StringBuilder text = new StringBuilder();
        for (int what : new int[] {0, 5, 6, 7}) {
            text.append(x.count(what)).append(' ');
        }
        int wagons = x.count(0);
        for (int w = 0; w < wagons; w++) {
            for (int what = 0; what < 6; what++) {
                text.append(x.wagon(w, what)).append(' ');
            }
        }
        for (int t = 0; t < 3; t++) {
            text.append("track ").append(x.track(t, 0)).append(' ');
            int next = x.track(t, 10);
            for (int i = 11; next != HumpYard.NONE; i++) {
                text.append(next).append(' ');
                next = x.track(t, i);
            }
        }
        for (int train = 0; train < 2; train++) {
            int wanted = x.wanted(train, -1);
            int out = x.out(train, -1);
            text.append("train ").append(wanted).append(' ').append(out).append(' ');
            for (int place = 0; place < wanted; place++) {
                text.append(x.wanted(train, place)).append(' ').append(x.out(train, place)).append(' ');
            }
        }
        return text.toString();
    }

    private static void imageDoesNotHold() {
        check.sentence("(not LISTS, THE TAPE, THE PAPER)");
        HumpYard x = Check.yard("ba", "10");
        Check.fill(x, 0, 5, 6);
        x.list(1, 3);
        x.spell();
        Check.feed(x, "012");
        x.image();
        x.put(0, 1, 7);
        x.list(1, 1);
        x.list(2, 0);
        x.set(0, 1, 0);
        x.spell();
        Check.feed(x, "2");
        check.due("undo()", x.undo(), 2);
        listDue(x, 0, 5, 7);
        listDue(x, 1, 0);
        check.due("judge(2): still held", x.judge(2), 0);
        check.due("judge(3): still nothing", x.judge(3), -11);
        check.due("the paper", Check.paper(x), "Ha+b+");
        check.due("count(3)", x.count(3), 4);
        check.due("replay(5) of 0122", x.replay(5), 1);
        check.due("undo()", x.undo(), 2);
        check.due("count(3): the tape is empty still", x.count(3), 0);
    }

    private static void imageLatest() {
        check.sentence("THE IMAGE is taken: how many WAGONS.");
        HumpYard x = new HumpYard();
        check.due("image() of no wagons", x.image(), 0);
        check.due("undo() of no wagons", x.undo(), 0);
        Check.feed(x, "abcdefgh");
        x.yard();
        check.due("undo() to no wagons", x.undo(), 0);
        check.due("count(0)", x.count(0), 0);
        check.due("wagon(0, 0)", x.wagon(0, 0), -1);
        Check.feed(x, "abcdefgh");
        x.yard();
        check.due("image() of eight", x.image(), 8);
        x.set(7, 1, 7);
        check.due("image() anew", x.image(), 8);
        x.set(7, 1, 1);
        check.due("undo(): to the latest", x.undo(), 8);
        check.due("wagon(7, 1)", x.wagon(7, 1), 7);
        // what is done behind an image doesn't change it, nor what is done behind an undo
        x.set(7, 1, 2);
        check.due("undo() again", x.undo(), 8);
        check.due("wagon(7, 1)", x.wagon(7, 1), 7);
        check.due("undo() twice running", x.undo(), 8);
        check.due("wagon(7, 1)", x.wagon(7, 1), 7);
    }

    private static void undoNone() {
        check.promise(36, "undo");
        check.sentence("STATE: there is none.");
        HumpYard x = Check.yard("ba", "10");
        check.due("undo()", x.undo(), -3);
        x.hump();
        check.due("undo() HUMPED", x.undo(), -3);
        check.due("count(0) stays", x.count(0), 2);
        check.due("count(6) stays", x.count(6), 1);
        check.due("codes stay", Check.codes(x), 10);
        x.image();
        check.due("undo()", x.undo(), 2);
        check.due("count(6)", x.count(6), 1);
    }

    // ---- promise 37

    private static void countDue(HumpYard x, int... due) {
        for (int what = 0; what < 8; what++) {
            check.due("count(" + what + ")", x.count(what), due[what]);
        }
    }

    private static void count() {
        check.promise(37, "count");
        check.sentence("7 PULLS since it was HUMPED (0: it isn't)");
        HumpYard x = new HumpYard();
        countDue(x, 0, 0, 0, 0, 0, 0, 0, 0);
        x.hump();
        x.pull(0);
        countDue(x, 0, 0, 0, 0, 0, 0, 1, 1);
        Check.feed(x, "abcd|efgh");
        x.yard();
        countDue(x, 8, 0, 0, 0, 0, 0, 0, 0);
        Check.feed(x, "77777777");
        x.codes();
        x.brand(3);
        x.spell();
        for (int i = 0; i < 10; i++) {
            x.feed(4, 'x', 'x', 'x', 'x');
        }
        countDue(x, 8, 0, 0, 40, 71, 3, 0, 0);
        x.hump();
        countDue(x, 8, 0, 8, 40, 71, 3, 1, 0);
        x.pull(0);
        x.pull(1);
        x.pull(1);
        countDue(x, 8, 0, 8, 40, 71, 3, 1, 3);
        x.pull(2);
        countDue(x, 8, 8, 0, 40, 71, 3, 1, 4);
        x.clear();
        countDue(x, 8, 0, 0, 40, 71, 3, 0, 0);
        x.hump();
        countDue(x, 8, 0, 8, 40, 71, 3, 1, 0);
    }

    private static void countAsked() {
        check.sentence("BAD.");
        HumpYard x = Check.yard("ab");
        for (int wrong : Check.outside(0, 7)) {
            check.due("count(" + wrong + ")", x.count(wrong), -2);
        }
    }
}
