/** Promises 1 to 10: a new object, the tape, the yard and what it is asked. */
public final class YardTest {
    private static final Check check = new Check("YardTest");

    public static void main(String[] args) {
        newObject();
        feed();
        yard();
        codes();
        set();
        room();
        brand();
        wagon();
        wanted();
        track();
        check.end();
    }

    private static void newObject() {
        check.promise(1, "a new object");
        HumpYard x = new HumpYard();
        for (int what = 0; what < 8; what++) {
            check.due("count(" + what + ")", x.count(what), 0);
        }
        for (int t = 0; t < 3; t++) {
            check.due("track(t, 0)", x.track(t, 0), 24);
            check.due("track(t, 1)", x.track(t, 1), 0);
            check.due("track(t, 2)", x.track(t, 2), 0);
            check.due("track(t, 10)", x.track(t, 10), -1);
        }
        check.due("wagon(0, 0)", x.wagon(0, 0), -1);
        check.due("wanted(0, -1)", x.wanted(0, -1), 0);
        check.due("wanted(1, -1)", x.wanted(1, -1), 0);
        check.due("out(0, -1)", x.out(0, -1), 0);
        check.due("out(1, -1)", x.out(1, -1), 0);
        check.due("paper(0)", x.paper(0), -1);
        check.due("undo()", x.undo(), -3);
        for (int list = 0; list < 4; list++) {
            check.due("judge(list)", x.judge(list), -11);
        }
    }

    private static void feed() {
        check.promise(2, "feed");
        HumpYard x = new HumpYard();
        check.due("feed(0, ..)", x.feed(0, 97, 97, 97, 97), -2);
        check.due("feed(5, ..)", x.feed(5, 97, 97, 97, 97), -2);
        check.due("feed(-1, ..)", x.feed(-1, 97, 97, 97, 97), -2);
        for (int wrong : new int[] {0, 128, -1, Integer.MIN_VALUE, Integer.MAX_VALUE}) {
            check.due("feed(1, wrong, ..)", x.feed(1, wrong, 97, 97, 97), -2);
            check.due("feed(1, 97, wrong, ..)", x.feed(1, 97, wrong, 97, 97), -2);
            check.due("feed(1, 97, 97, wrong, 97)", x.feed(1, 97, 97, wrong, 97), -2);
            check.due("feed(1, 97, 97, 97, wrong)", x.feed(1, 97, 97, 97, wrong), -2);
        }
        check.due("count(3)", x.count(3), 0);
        check.due("feed(1, 1, 127, ..)", x.feed(1, 1, 127, 1, 127), 1);
        check.due("feed(1, 127, ..)", x.feed(1, 127, 1, 1, 1), 2);
        check.due("yard()", x.yard(), -100);
        check.due("feed(2, b, a, ..)", x.feed(2, 'b', 'a', 'h', 'h'), 2);
        check.due("feed(3, |, d, c, ..)", x.feed(3, '|', 'd', 'c', 'h'), 5);
        check.due("feed(4, e, f, g, h)", x.feed(4, 'e', 'f', 'g', 'h'), 9);
        check.due("yard()", x.yard(), 8);
        int[] row = {3, 2, 4, 5, 6, 7};
        for (int i = 0; i < row.length; i++) {
            check.due("wanted(1, i)", x.wanted(1, i), row[i]);
        }
        feedUntilFull(x);
    }

    private static void feedUntilFull(HumpYard x) {
        for (int i = 1; i <= 9; i++) {
            check.due("feed(4, ..)", x.feed(4, 48, 48, 48, 48), 4 * i);
        }
        check.due("feed(2, ..)", x.feed(2, 48, 48, 48, 48), 38);
        check.due("feed(3, ..) into 2", x.feed(3, 48, 48, 48, 48), -4);
        check.due("count(3)", x.count(3), 38);
        check.due("feed(2, ..)", x.feed(2, 48, 48, 48, 48), 40);
        check.due("feed(1, ..) into 0", x.feed(1, 48, 48, 48, 48), -4);
        check.due("feed(1, 0, ..): BAD ahead of FULL", x.feed(1, 0, 48, 48, 48), -2);
        check.due("count(3)", x.count(3), 40);
    }

    private static void yardFault(String text, int fault) {
        HumpYard x = Check.yard("ba", "12");
        Check.feed(x, text);
        check.due("yard() of " + text, x.yard(), -100 - fault);
        check.due("count(3): the tape is empty", x.count(3), 0);
        check.due("count(0): the yard stays", x.count(0), 2);
        check.due("codes stay", Check.codes(x), 12);
    }

    private static void yard() {
        check.promise(3, "yard");
        yardFault("ab|c|", 4);
        yardFault("||", 1);
        yardFault("aba", 2);
        yardFault("ab|a", 3);
        yardFault("abi", 2);
        yardFault("`", 0);
        yardFault("A", 0);
        yardFault("abcdefgh|a", 9);
        yardFault("abcdefghi", 8);
        yardFault("b", 0);
        yardFault("acd", 2);
        yardFault("a|c", 2);
        yardFault("|hg", 1);
        yardFault("hh", 1);
        yardFault("hb0", 2);
        yardGood("", 0, 0);
        yardGood("|", 0, 0);
        yardGood("a", 1, 0);
        yardGood("|a", 0, 1);
        yardGood("a|", 1, 0);
        yardGood("abcdefgh", 8, 0);
        yardGood("hgfe|dcba", 4, 4);
        yardAnew();
    }

    private static void yardGood(String text, int first, int second) {
        HumpYard x = new HumpYard();
        Check.feed(x, text);
        check.due("yard() of " + text, x.yard(), first + second);
        check.due("count(0)", x.count(0), first + second);
        check.due("count(3)", x.count(3), 0);
        check.due("wanted(0, -1)", x.wanted(0, -1), first);
        check.due("wanted(1, -1)", x.wanted(1, -1), second);
    }

    private static void yardAnew() {
        HumpYard x = Check.yard("cba", "123");
        x.set(0, 0, 3);
        x.room(1, 7);
        x.brand(2);
        x.hump();
        x.pull(0);
        Check.feed(x, "b|a");
        check.due("yard() though HUMPED", x.yard(), 2);
        check.due("wanted(0, -1)", x.wanted(0, -1), 1);
        check.due("wanted(0, 0)", x.wanted(0, 0), 1);
        check.due("wanted(1, -1)", x.wanted(1, -1), 1);
        check.due("count(6)", x.count(6), 0);
        check.due("count(7)", x.count(7), 0);
        check.due("count(1)", x.count(1), 0);
        check.due("count(2)", x.count(2), 0);
        check.due("wagon(0, 0)", x.wagon(0, 0), 1);
        check.due("wagon(0, 1)", x.wagon(0, 1), 0);
        check.due("wagon(1, 1)", x.wagon(1, 1), 0);
        check.due("track(1, 0): ROOM stays", x.track(1, 0), 7);
        check.due("count(5): BRAND stays", x.count(5), 2);
        check.due("yard() of an empty tape", x.yard(), 0);
        check.due("wanted(0, -1)", x.wanted(0, -1), 0);
        check.due("wanted(1, -1)", x.wanted(1, -1), 0);
    }

    private static void codes() {
        check.promise(4, "codes");
        HumpYard x = Check.yard("abc");
        x.brand(1);
        Check.feed(x, "073");
        check.due("codes() that may not be", x.codes(), 3);
        check.due("codes", Check.codes(x), 73);
        check.due("count(3)", x.count(3), 0);
        codesFault(x, "", 0);
        codesFault(x, "1", 1);
        codesFault(x, "12", 2);
        codesFault(x, "1234", 3);
        codesFault(x, "128", 2);
        codesFault(x, "/11", 0);
        codesFault(x, "1a", 1);
        codesFault(x, "1111a", 3);
        HumpYard none = new HumpYard();
        check.due("codes() of no wagons", none.codes(), 0);
        Check.feed(none, "0");
        check.due("codes() of no wagons", none.codes(), -100);
        x.hump();
        Check.feed(x, "9");
        check.due("codes() HUMPED, with a fault", x.codes(), -3);
        check.due("count(3): the tape stays", x.count(3), 1);
        x.clear();
        check.due("codes()", x.codes(), -100);
    }

    private static void codesFault(HumpYard x, String text, int fault) {
        Check.feed(x, text);
        check.due("codes() of " + text, x.codes(), -100 - fault);
        check.due("codes stay", Check.codes(x), 73);
        check.due("count(3)", x.count(3), 0);
    }

    private static void set() {
        check.promise(5, "set");
        HumpYard x = Check.yard("ab");
        check.due("set(1, 0, 3)", x.set(1, 0, 3), 1);
        check.due("set(1, 0, 1)", x.set(1, 0, 1), 3);
        check.due("set(1, 1, 7)", x.set(1, 1, 7), 0);
        check.due("set(1, 1, 0)", x.set(1, 1, 0), 7);
        check.due("set(0, 1, 5)", x.set(0, 1, 5), 0);
        check.due("set(0, 0, 0)", x.set(0, 0, 0), -2);
        check.due("set(0, 0, 4)", x.set(0, 0, 4), -2);
        check.due("set(0, 1, -1)", x.set(0, 1, -1), -2);
        check.due("set(0, 1, 8)", x.set(0, 1, 8), -2);
        check.due("set(2, 0, 9)", x.set(2, 0, 9), -1);
        check.due("set(-1, 0, 1)", x.set(-1, 0, 1), -1);
        check.due("set(0, 2, 9)", x.set(0, 2, 9), -1);
        check.due("set(0, -1, 1)", x.set(0, -1, 1), -1);
        check.due("wagon(0, 0)", x.wagon(0, 0), 1);
        check.due("wagon(0, 1)", x.wagon(0, 1), 5);
        x.hump();
        check.due("set(0, 1, 1) HUMPED", x.set(0, 1, 1), -3);
        check.due("set(0, 0, 2) HUMPED", x.set(0, 0, 2), -3);
        check.due("set(0, 0, 4) HUMPED", x.set(0, 0, 4), -2);
        check.due("set(2, 0, 1) HUMPED", x.set(2, 0, 1), -1);
        check.due("wagon(0, 1)", x.wagon(0, 1), 5);
    }

    private static void room() {
        check.promise(6, "room");
        HumpYard x = Check.yard("ab");
        check.due("room(2, 0)", x.room(2, 0), 24);
        check.due("room(2, 24)", x.room(2, 24), 0);
        check.due("room(0, 5)", x.room(0, 5), 24);
        check.due("room(0, 25)", x.room(0, 25), -2);
        check.due("room(0, -1)", x.room(0, -1), -2);
        check.due("room(3, 25)", x.room(3, 25), -1);
        check.due("room(-1, 1)", x.room(-1, 1), -1);
        check.due("track(0, 0)", x.track(0, 0), 5);
        check.due("track(1, 0)", x.track(1, 0), 24);
        x.hump();
        check.due("room(0, 3) HUMPED", x.room(0, 3), -3);
        check.due("room(0, 25) HUMPED", x.room(0, 25), -2);
        check.due("room(3, 3) HUMPED", x.room(3, 3), -1);
        check.due("track(0, 0)", x.track(0, 0), 5);
    }

    private static void brand() {
        check.promise(7, "brand");
        HumpYard x = new HumpYard();
        check.due("brand(3)", x.brand(3), 0);
        check.due("brand(4)", x.brand(4), -1);
        check.due("brand(-1)", x.brand(-1), -1);
        check.due("brand(1)", x.brand(1), 3);
        check.due("brand(2)", x.brand(2), 1);
        x.hump();
        check.due("brand(0) HUMPED", x.brand(0), 2);
        check.due("count(5)", x.count(5), 0);
    }

    private static void wagon() {
        check.promise(8, "wagon");
        // as it is wanted: b | a d | c, then e
        HumpYard x = Check.yard("badc|e", "71605");
        x.set(3, 0, 2);
        int[][] due = {
            {1, 7, 0, 1, 1, -5, 3, 1},
            {1, 1, 0, 0, 0, -5, 1, 0},
            {1, 6, 0, 3, 2, -5, 2, 2},
            {2, 0, 0, 2, 1, -5, 0, 1},
            {1, 5, 1, 0, 0, -5, 2, 0}};
        for (int w = 0; w < 5; w++) {
            for (int what = 0; what < 8; what++) {
                check.due("wagon(" + w + ", " + what + ")", x.wagon(w, what), due[w][what]);
            }
        }
        check.due("wagon(5, 0)", x.wagon(5, 0), -1);
        check.due("wagon(-1, 0)", x.wagon(-1, 0), -1);
        check.due("wagon(0, 8)", x.wagon(0, 8), -1);
        check.due("wagon(0, -1)", x.wagon(0, -1), -1);
        x.hump();
        int[] where = {0, 0, 1, 10, 0};
        for (int w = 0; w < 5; w++) {
            check.due("wagon(w, 5) HUMPED", x.wagon(w, 5), where[w]);
        }
        x.pull(0);
        int[] then = {1, 10, 1, 10, 2};
        for (int w = 0; w < 5; w++) {
            check.due("wagon(w, 5) pulled", x.wagon(w, 5), then[w]);
        }
        x.pull(2);
        check.due("wagon(4, 5)", x.wagon(4, 5), 11);
        wagonPresorted();
    }

    private static void wagonPresorted() {
        HumpYard x = Check.yard("fedcba");
        int[][] due = {{5, 4, 3, 2, 1, 0}, {-5, -5, -5, -5, -5, -5}, {5, 4, 3, 2, 1, 0}, {6, 4, 3, 2, 1, 0}};
        for (int k = 0; k < 4; k++) {
            x.brand(k);
            for (int w = 0; w < 6; w++) {
                check.due("wagon(" + w + ", 7) by brand " + k, x.wagon(w, 7), due[k][w]);
            }
        }
    }

    private static void wanted() {
        check.promise(9, "wanted");
        HumpYard x = Check.yard("ca|db");
        check.due("wanted(0, 0)", x.wanted(0, 0), 2);
        check.due("wanted(0, 1)", x.wanted(0, 1), 0);
        check.due("wanted(0, 2)", x.wanted(0, 2), -1);
        check.due("wanted(1, 0)", x.wanted(1, 0), 3);
        check.due("wanted(1, 1)", x.wanted(1, 1), 1);
        check.due("wanted(1, -1)", x.wanted(1, -1), 2);
        check.due("wanted(1, -2)", x.wanted(1, -2), -1);
        check.due("wanted(2, -1)", x.wanted(2, -1), -1);
        check.due("wanted(-1, 0)", x.wanted(-1, 0), -1);
        check.due("wanted(0, 8)", x.wanted(0, 8), -1);
    }

    private static void track() {
        check.promise(10, "track");
        HumpYard x = Check.yard("abcd", "1350");
        x.set(0, 0, 3);
        x.set(1, 0, 2);
        x.room(2, 9);
        check.due("track(2, 0)", x.track(2, 0), 9);
        int[] loads = {6, 2, 1};
        for (int t = 0; t < 3; t++) {
            check.due("track(t, 1)", x.track(t, 1), 0);
            check.due("track(t, 2)", x.track(t, 2), loads[t]);
        }
        check.due("track(0, 10)", x.track(0, 10), -1);
        x.hump();
        check.due("track(0, 1)", x.track(0, 1), 6);
        check.due("track(0, 10)", x.track(0, 10), 0);
        check.due("track(0, 11)", x.track(0, 11), 1);
        check.due("track(0, 12)", x.track(0, 12), 2);
        check.due("track(0, 13)", x.track(0, 13), -1);
        x.pull(0);
        check.due("track(0, 1)", x.track(0, 1), 0);
        check.due("track(1, 1)", x.track(1, 1), 2);
        check.due("track(2, 1)", x.track(2, 1), 1);
        check.due("track(0, 2)", x.track(0, 2), 6);
        check.due("track(2, 10)", x.track(2, 10), 2);
        check.due("track(0, 10)", x.track(0, 10), -1);
        for (int wrong : new int[] {-1, 3, 9, 18, 19, Integer.MIN_VALUE, Integer.MAX_VALUE}) {
            check.due("track(1, wrong)", x.track(1, wrong), -1);
        }
        check.due("track(3, 0)", x.track(3, 0), -1);
        check.due("track(-1, 0)", x.track(-1, 0), -1);
    }
}
