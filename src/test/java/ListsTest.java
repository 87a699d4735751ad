/** Promises 31 to 37: lists, what is laid into them, the image, counts; and the constants. */
public final class ListsTest {
    private static final Check check = new Check("ListsTest");
    private static final long NO = Long.MIN_VALUE;

    public static void main(String[] args) {
        constants();
        list();
        put();
        get();
        layOut();
        layCodes();
        image();
        undo();
        count();
        check.end();
    }

    private static void constants() {
        check.due("NONE", HumpYard.NONE, -1);
        check.due("BAD", HumpYard.BAD, -2);
        check.due("STATE", HumpYard.STATE, -3);
        check.due("FULL", HumpYard.FULL, -4);
        check.due("NOT", HumpYard.NOT, -5);
        check.due("NO", HumpYard.NO, NO);
    }

    private static void list() {
        check.promise(31, "list");
        HumpYard x = new HumpYard();
        check.due("list(0, 0)", x.list(0, 0), 1);
        check.due("list(3, 12)", x.list(3, 12), 1);
        check.due("get(3, 11)", x.get(3, 11), 0);
        x.put(3, 0, 9);
        x.put(3, 4, 9);
        check.due("list(3, 13)", x.list(3, 13), -2);
        check.due("list(3, -1)", x.list(3, -1), -14);
        check.due("list(3, MIN)", x.list(3, Integer.MIN_VALUE), -14);
        check.due("list(3, MAX)", x.list(3, Integer.MAX_VALUE), -2);
        check.due("get(3, 4) stays", x.get(3, 4), 9);
        check.due("list(4, 13)", x.list(4, 13), -1);
        check.due("list(-1, -1)", x.list(-1, -1), -1);
        check.due("list(3, 5) anew", x.list(3, 5), 1);
        check.due("get(3, 0)", x.get(3, 0), 0);
        check.due("get(3, 4)", x.get(3, 4), 0);
        check.due("get(3, 5)", x.get(3, 5), NO);
        check.due("list(1, -1)", x.list(1, -1), -14);
        check.due("judge(1): still nothing", x.judge(1), -11);
    }

    private static void put() {
        check.promise(32, "put");
        HumpYard x = new HumpYard();
        check.due("put(0, 0, 1)", x.put(0, 0, 1), -11);
        check.due("put(0, 99, 1): NOTHING ahead of BEYOND", x.put(0, 99, 1), -11);
        x.list(0, 2);
        check.due("put(0, 0, MIN)", x.put(0, 0, Integer.MIN_VALUE), 1);
        check.due("put(0, 1, MAX)", x.put(0, 1, Integer.MAX_VALUE), 1);
        check.due("put(0, 2, 1)", x.put(0, 2, 1), -13);
        check.due("put(0, -1, 1)", x.put(0, -1, 1), -13);
        check.due("put(4, 0, 1)", x.put(4, 0, 1), -1);
        check.due("put(-1, 0, 1)", x.put(-1, 0, 1), -1);
        check.due("get(0, 0)", x.get(0, 0), Integer.MIN_VALUE);
        check.due("get(0, 1)", x.get(0, 1), Integer.MAX_VALUE);
    }

    private static void get() {
        check.promise(33, "get");
        HumpYard x = new HumpYard();
        check.due("get(0, 0): nothing", x.get(0, 0), NO);
        Check.fill(x, 2, 5, -6, 7);
        check.due("get(2, 0)", x.get(2, 0), 5);
        check.due("get(2, 1)", x.get(2, 1), -6);
        check.due("get(2, 2)", x.get(2, 2), 7);
        check.due("get(2, 3)", x.get(2, 3), NO);
        check.due("get(2, -1)", x.get(2, -1), NO);
        check.due("get(1, 0)", x.get(1, 0), NO);
        check.due("get(4, 0)", x.get(4, 0), NO);
        check.due("get(-1, 0)", x.get(-1, 0), NO);
        x.list(0, 0);
        check.due("get(0, 0): an empty row", x.get(0, 0), NO);
    }

    private static void listDue(HumpYard x, int list, int... values) {
        for (int i = 0; i < values.length; i++) {
            check.due("get(" + list + ", " + i + ")", x.get(list, i), values[i]);
        }
        check.due("get behind all", x.get(list, values.length), NO);
    }

    private static void layOut() {
        check.promise(34, "lay");
        HumpYard x = Check.yard("ac|bd", "1000");
        Check.fill(x, 0, 50, 51, 52, 53);
        check.due("lay(0, 0, 0, 0): nothing is OUT", x.lay(0, 0, 0, 0), 0);
        check.due("lay(0, 0, 0, -1): nothing is OUT", x.lay(0, 0, 0, -1), 0);
        check.due("lay(0, 0, 0, 99): nothing is OUT", x.lay(0, 0, 0, 99), 0);
        listDue(x, 0, 50, 51, 52, 53);
        x.hump();
        check.due("lay(0, 1, 0, 1)", x.lay(0, 1, 0, 1), 2);
        listDue(x, 0, 50, 1, 3, 53);
        check.due("lay(0, 0, 0, 3)", x.lay(0, 0, 0, 3), 1);
        listDue(x, 0, 50, 1, 3, 2);
        check.due("lay(0, 1, 0, 3): one has a place", x.lay(0, 1, 0, 3), -13);
        listDue(x, 0, 50, 1, 3, 1);
        check.due("lay(0, 1, 0, 4)", x.lay(0, 1, 0, 4), -13);
        check.due("lay(0, 1, 0, -1): none", x.lay(0, 1, 0, -1), -13);
        check.due("lay(0, 1, 0, MAX)", x.lay(0, 1, 0, Integer.MAX_VALUE), -13);
        check.due("lay(0, 1, 0, MIN)", x.lay(0, 1, 0, Integer.MIN_VALUE), -13);
        listDue(x, 0, 50, 1, 3, 1);
        check.due("lay(0, 2, 1, 0): NONE ahead of NOTHING", x.lay(0, 2, 1, 0), -1);
        check.due("lay(0, -1, 0, 0)", x.lay(0, -1, 0, 0), -1);
        check.due("lay(2, 0, 0, 0)", x.lay(2, 0, 0, 0), -1);
        check.due("lay(-1, 0, 0, 0)", x.lay(-1, 0, 0, 0), -1);
        check.due("lay(0, 0, 4, 0)", x.lay(0, 0, 4, 0), -1);
        check.due("lay(0, 0, -1, 0)", x.lay(0, 0, -1, 0), -1);
        check.due("lay(0, 0, 1, 99)", x.lay(0, 0, 1, 99), -11);
    }

    private static void layCodes() {
        HumpYard x = Check.yard("ac|bd", "1234");
        Check.fill(x, 2, 9, 9, 9, 9, 9);
        check.due("lay(1, 99, 2, 0): train doesn't matter", x.lay(1, 99, 2, 0), 4);
        listDue(x, 2, 1, 2, 3, 4, 9);
        check.due("lay(1, -1, 2, 1)", x.lay(1, -1, 2, 1), 4);
        listDue(x, 2, 1, 1, 2, 3, 4);
        check.due("lay(1, 0, 2, 2)", x.lay(1, 0, 2, 2), -13);
        listDue(x, 2, 1, 1, 1, 2, 3);
        check.due("lay(1, 0, 2, -2)", x.lay(1, 0, 2, -2), -13);
        listDue(x, 2, 1, 1, 1, 2, 3);
        check.due("lay(1, 0, 3, 0)", x.lay(1, 0, 3, 0), -11);
        check.due("lay(1, 0, 4, 0)", x.lay(1, 0, 4, 0), -1);
        HumpYard none = new HumpYard();
        none.list(0, 0);
        check.due("lay(1, ..) of no wagons", none.lay(1, 0, 0, 5), 0);
    }

    private static void image() {
        check.promise(35, "image");
        HumpYard x = new HumpYard();
        check.due("image() of no wagons", x.image(), 0);
        Check.feed(x, "ba|c");
        x.yard();
        check.due("image()", x.image(), 3);
        Check.feed(x, "a");
        x.yard();
        check.due("undo(): the latest", x.undo(), 3);
        check.due("image() HUMPED", x.hump() + x.image(), 6);
    }

    private static void undo() {
        check.promise(36, "undo");
        HumpYard x = Check.yard("badc|e", "31204");
        check.due("undo(): none", x.undo(), -3);
        check.due("codes stay", Check.codes(x), 31204);
        x.set(1, 0, 2);
        x.room(1, 20);
        x.brand(2);
        x.list(0, 1);
        x.hump();
        x.pull(0);
        x.image();
        x.pull(1);
        x.pull(2);
        x.clear();
        Check.feed(x, "|ecdba");
        x.yard();
        Check.feed(x, "|ba");
        x.yard();
        x.room(1, 3);
        x.room(0, 4);
        x.brand(1);
        x.put(0, 0, 8);
        x.spell();
        Check.feed(x, "xy");
        check.due("undo()", x.undo(), 5);
        asImaged(x);
        x.pull(1);
        check.due("undo() again", x.undo(), 5);
        asImaged(x);
        check.due("get(0, 0) stays", x.get(0, 0), 8);
        check.due("count(3) stays", x.count(3), 2);
        check.due("count(4) stays", x.count(4), 5);
    }

    private static void asImaged(HumpYard x) {
        check.due("count(0)", x.count(0), 5);
        check.due("count(1)", x.count(1), 2);
        check.due("count(2)", x.count(2), 3);
        check.due("count(5)", x.count(5), 2);
        check.due("count(6)", x.count(6), 1);
        check.due("count(7)", x.count(7), 1);
        check.due("codes", Check.codes(x), 31204);
        check.due("wagon(1, 0)", x.wagon(1, 0), 2);
        int[] row = {1, 0, 3, 2};
        for (int i = 0; i < 4; i++) {
            check.due("wanted(0, i)", x.wanted(0, i), row[i]);
            check.due("wagon(w, 3)", x.wagon(row[i], 3), i);
        }
        check.due("wanted(1, 0)", x.wanted(1, 0), 4);
        check.due("wagon(4, 2)", x.wagon(4, 2), 1);
        check.due("track(0, 0)", x.track(0, 0), 24);
        check.due("track(1, 0)", x.track(1, 0), 20);
        check.due("track(1, 10)", x.track(1, 10), 2);
        check.due("track(1, 11)", x.track(1, 11), 0);
        check.due("track(2, 10)", x.track(2, 10), 4);
        check.due("out(0, 0)", x.out(0, 0), 3);
        check.due("out(0, 1)", x.out(0, 1), 1);
    }

    private static void count() {
        check.promise(37, "count");
        HumpYard x = Check.yard("abc|d", "0310");
        x.brand(3);
        x.spell();
        Check.feed(x, "zz");
        countDue(x, 4, 0, 0, 2, 19, 3, 0, 0);
        x.hump();
        countDue(x, 4, 2, 2, 2, 19, 3, 1, 0);
        x.pull(0);
        x.pull(0);
        countDue(x, 4, 3, 1, 2, 19, 3, 1, 2);
        x.clear();
        countDue(x, 4, 0, 0, 2, 19, 3, 0, 0);
        check.due("count(8)", x.count(8), -2);
        check.due("count(-1)", x.count(-1), -2);
    }

    private static void countDue(HumpYard x, int... due) {
        for (int what = 0; what < 8; what++) {
            check.due("count(" + what + ")", x.count(what), due[what]);
        }
    }
}
