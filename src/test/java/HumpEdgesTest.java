/** Promises 18 to 25 and the hump, pulls and protocol of section 3: each sentence that names an edge has a test here. */
public final class HumpEdgesTest {
    private static final Check check = new Check("HumpEdgesTest");
    private static final String TWENTY = "01201201201201201201";

    public static void main(String[] args) {
        humpLeastBit();
        humpRefused();
        pullNextBit();
        pullOfNothing();
        pullRefused();
        pullFull();
        pullCountedOnly();
        clear();
        out();
        wrong();
        replayPulls();
        replayFaults();
        replayOver();
        replayAnswers();
        replayAnyTime();
        spellTracks();
        spellWholeRun();
        paper();
        check.end();
    }

    // ---- promise 18

    private static void humpLeastBit() {
        check.promise(18, "hump");
        check.sentence("roll to the TRACK of the least BIT of their CODE, behind what lies there; or, without any");
        int[] least = {10, 0, 1, 0, 2, 0, 1, 0};
        for (int code = 0; code < 8; code++) {
            HumpYard first = Check.yard("a", "" + code);
            check.due("hump() by " + code, first.hump(), code == 0 ? 1 : 0);
            check.due("wagon(0, 5) by " + code, first.wagon(0, 5), least[code]);
            HumpYard second = Check.yard("|a", "" + code);
            check.due("hump() by " + code, second.hump(), code == 0 ? 1 : 0);
            check.due("wagon(0, 5) by " + code, second.wagon(0, 5), code == 0 ? 11 : least[code]);
        }
        HumpYard most = Check.yard("hgfe|dcba");
        check.due("hump(): all go OUT", most.hump(), 8);
        for (int i = 0; i < 4; i++) {
            check.due("out(0, i): by numbers, not as wanted", most.out(0, i), 4 + i);
            check.due("out(1, i): by numbers, not as wanted", most.out(1, i), i);
        }
        check.due("hump() of no wagons", new HumpYard().hump(), 0);
    }

    private static void humpRefused() {
        check.sentence("STATE: it is; FULL.");
        for (int t = 0; t < 3; t++) {
            HumpYard x = Check.yard("ab|c", "" + (1 << t) + (1 << t) + "0");
            x.set(1, 0, 3);
            x.room(t, 3);
            check.due("hump(): 4 into ROOM 3 of " + t, x.hump(), -4);
            check.due("count(6): nothing is done", x.count(6), 0);
            check.due("count(1): nothing is done", x.count(1), 0);
            check.due("count(2): nothing is done", x.count(2), 0);
            x.room(t, 4);
            check.due("hump(): 4 into ROOM 4 of " + t, x.hump(), 1);
            check.due("hump() again", x.hump(), -3);
            check.due("count(2) stays", x.count(2), 2);
        }
        HumpYard none = new HumpYard();
        Check.rooms(none, 0, 0, 0);
        check.due("hump() of no wagons, no ROOM", none.hump(), 0);
        check.due("hump() of no wagons again", none.hump(), -3);
        HumpYard noRoom = Check.yard("ab", "01");
        noRoom.room(0, 0);
        check.due("hump() into ROOM 0", noRoom.hump(), -4);
        noRoom.set(1, 1, 0);
        check.due("hump(): nothing lies on a TRACK", noRoom.hump(), 2);
        // only what lies on a track behind all of it matters, not what is to come there
        HumpYard later = Check.yard("ab", "33");
        later.room(1, 0);
        check.due("hump(): TRACK 1 is for later", later.hump(), 0);
    }

    // ---- promise 19

    private static void pullNextBit() {
        check.promise(19, "pull");
        check.sentence("roll to the TRACK of the next greater BIT of their CODE, or OUT, likewise");
        // where a wagon is behind a pull of each track that its code has
        int[][] next = {{}, {10}, {10}, {1, 10}, {10}, {2, 10}, {2, 10}, {1, 2, 10}};
        for (int code = 1; code < 8; code++) {
            HumpYard x = Check.yard("a", "" + code);
            x.hump();
            for (int then : next[code]) {
                check.due("pull() by " + code, x.pull(x.wagon(0, 5)), 1);
                check.due("wagon(0, 5) by " + code, x.wagon(0, 5), then);
            }
        }
        HumpYard eight = Check.yard("abcdefgh", "77777777");
        eight.hump();
        check.due("pull(0) of eight", eight.pull(0), 8);
        check.due("track(1, 17)", eight.track(1, 17), 7);
        check.sentence("the first that came first");
        HumpYard behind = Check.yard("abcd", "3121");
        behind.hump();
        behind.pull(0);
        check.due("track(1, 10)", behind.track(1, 10), 2);
        check.due("track(1, 11)", behind.track(1, 11), 0);
        check.due("out(0, 0)", behind.out(0, 0), 1);
        check.due("out(0, 1)", behind.out(0, 1), 3);
    }

    private static void pullOfNothing() {
        check.sentence("(One of a TRACK on which nothing lies is a PULL, too.)");
        HumpYard x = Check.yard("a");
        x.hump();
        for (int i = 1; i <= 30; i++) {
            check.due("pull(i % 3)", x.pull(i % 3), 0);
            check.due("count(7)", x.count(7), i);
        }
        HumpYard none = new HumpYard();
        none.hump();
        check.due("pull(2) of no wagons", none.pull(2), 0);
        check.due("count(7)", none.count(7), 1);
    }

    private static void pullRefused() {
        check.sentence("NONE; STATE: it isn't HUMPED; FULL.");
        HumpYard x = Check.yard("ab", "31");
        for (int wrong : Check.outside(0, 2)) {
            check.due("pull(" + wrong + ") not HUMPED", x.pull(wrong), -1);
        }
        for (int t = 0; t < 3; t++) {
            check.due("pull(t) not HUMPED", x.pull(t), -3);
        }
        x.hump();
        for (int wrong : Check.outside(0, 2)) {
            check.due("pull(" + wrong + ") HUMPED", x.pull(wrong), -1);
        }
        check.due("count(7)", x.count(7), 0);
        check.due("count(2)", x.count(2), 2);
        x.clear();
        check.due("pull(0) CLEARED", x.pull(0), -3);
    }

    private static void pullFull() {
        check.sentence("If more LENGTHS than ROOM would lie on a TRACK behind all of it: FULL (nothing is done)");
        HumpYard x = Check.yard("abc", "321");
        x.set(0, 0, 3);
        x.set(1, 0, 2);
        x.room(1, 4);
        x.hump();
        x.pull(2);
        check.due("pull(0): 5 into ROOM 4", x.pull(0), -4);
        check.due("count(7): nothing is done", x.count(7), 1);
        check.due("track(0, 10)", x.track(0, 10), 0);
        check.due("track(0, 11): c stays too", x.track(0, 11), 2);
        check.due("track(1, 1)", x.track(1, 1), 2);
        check.due("count(1)", x.count(1), 0);
        check.due("pull(1)", x.pull(1), 1);
        check.due("pull(0): 3 into ROOM 4", x.pull(0), 2);
        x.clear();
        x.room(1, 5);
        x.hump();
        check.due("pull(0): 5 into ROOM 5", x.pull(0), 2);
        check.due("track(1, 1)", x.track(1, 1), 5);
        HumpYard over = Check.yard("ab", "54");
        over.set(0, 0, 3);
        over.room(2, 3);
        over.hump();
        check.due("pull(0): 4 into ROOM 3 of TRACK 2", over.pull(0), -4);
    }

    private static void pullCountedOnly() {
        check.sentence("behind all of it");
        // track 0 is full itself, but what is pulled lies there no more
        HumpYard x = Check.yard("abcdefgh", "33333333");
        for (int w = 0; w < 8; w++) {
            x.set(w, 0, 3);
        }
        x.hump();
        check.due("pull(0): 24 into ROOM 24", x.pull(0), 8);
        x.clear();
        x.room(1, 23);
        x.hump();
        check.due("pull(0): 24 into ROOM 23", x.pull(0), -4);
        check.due("pull(1): nothing rolls, so nothing is FULL", x.pull(1), 0);
        check.due("pull(2)", x.pull(2), 0);
        check.due("track(0, 1)", x.track(0, 1), 24);
    }

    // ---- promise 20

    private static void clear() {
        check.promise(20, "clear");
        check.sentence("CLEARED: how many were OUT.");
        HumpYard x = Check.yard("abcd|efgh", "00120012");
        check.due("clear() not HUMPED", x.clear(), 0);
        x.hump();
        check.due("clear() HUMPED", x.clear(), 4);
        check.due("clear() again", x.clear(), 0);
        x.hump();
        x.pull(0);
        x.pull(1);
        check.due("clear() of all", x.clear(), 8);
        for (int what : new int[] {1, 2, 6, 7}) {
            check.due("count(" + what + ")", x.count(what), 0);
        }
        x.room(0, 0);
        x.hump();
        check.due("clear() behind FULL", x.clear(), 0);
        x.room(0, 24);
        check.due("hump() CLEARED", x.hump(), 4);
        check.due("count(7)", x.count(7), 0);
        HumpYard none = new HumpYard();
        check.due("clear() of no wagons", none.clear(), 0);
        none.hump();
        check.due("clear() of no wagons, HUMPED", none.clear(), 0);
        check.due("count(6)", none.count(6), 0);
    }

    // ---- promise 21

    private static void out() {
        check.promise(21, "out");
        check.sentence("(place -1: how many). NONE.");
        HumpYard x = Check.yard("cab|d", "0100");
        for (int train = 0; train < 2; train++) {
            check.due("out(train, -1): nothing is OUT", x.out(train, -1), 0);
            check.due("out(train, 0): nothing is OUT", x.out(train, 0), -1);
        }
        x.hump();
        int[] size = {2, 1};
        int[][] row = {{0, 2}, {3}};
        for (int train = 0; train < 2; train++) {
            check.due("out(train, -1)", x.out(train, -1), size[train]);
            for (int place = 0; place < size[train]; place++) {
                check.due("out(train, place)", x.out(train, place), row[train][place]);
            }
            for (int wrong : new int[] {Integer.MIN_VALUE, -2, size[train], 7, 8, 256, Integer.MAX_VALUE}) {
                check.due("out(train, " + wrong + ")", x.out(train, wrong), -1);
            }
        }
        for (int wrong : Check.outside(0, 1)) {
            check.due("out(" + wrong + ", -1)", x.out(wrong, -1), -1);
            check.due("out(" + wrong + ", 0)", x.out(wrong, 0), -1);
        }
        x.pull(0);
        check.due("out(0, 2)", x.out(0, 2), 1);
        check.due("out(0, 3)", x.out(0, 3), -1);
        HumpYard most = Check.yard("|abcdefgh");
        most.hump();
        check.due("out(1, 7)", most.out(1, 7), 7);
        check.due("out(1, 8)", most.out(1, 8), -1);
        check.due("out(0, -1)", most.out(0, -1), 0);
    }

    // ---- promise 22

    private static void wrong() {
        check.promise(22, "wrong");
        check.sentence("BAD: no such TRAIN; NONE.");
        HumpYard x = Check.yard("abc|fed", "001200");
        for (int wrong : Check.outside(0, 1)) {
            check.due("wrong(" + wrong + ")", x.wrong(wrong), -2);
        }
        check.sentence("(where nothing is OUT yet isn't)");
        check.due("wrong(0) CLEARED", x.wrong(0), -1);
        check.due("wrong(1) CLEARED", x.wrong(1), -1);
        x.hump();
        check.due("wrong(0): a b are OUT", x.wrong(0), -1);
        check.due("wrong(1): e f, not f e", x.wrong(1), 0);
        for (int wrong : Check.outside(0, 1)) {
            check.due("wrong(" + wrong + ") HUMPED", x.wrong(wrong), -2);
        }
        check.sentence("the first place at which what is OUT of a TRAIN is otherwise than it is wanted");
        HumpYard last = Check.yard("abcdefhg");
        last.hump();
        check.due("wrong(0): at 6 and 7", last.wrong(0), 6);
        HumpYard first = Check.yard("hgfedcba");
        first.hump();
        check.due("wrong(0): at all places", first.wrong(0), 0);
        HumpYard none = Check.yard("abcdefgh");
        none.hump();
        check.due("wrong(0): at none", none.wrong(0), -1);
        check.due("wrong(1): of an empty train", none.wrong(1), -1);
        // what is out already is at another place than it is wanted at
        HumpYard early = Check.yard("ab", "10");
        early.hump();
        check.due("wrong(0): b stands at 0", early.wrong(0), 0);
    }

    // ---- promise 23

    private static void replayPulls() {
        check.promise(23, "replay");
        check.sentence("figures 0 .. 2, 0 .. 20 of them");
        HumpYard x = Check.yard("abc", "124");
        check.due("replay(0) of none", x.replay(0), 0);
        check.due("replay(0) of 0", Check.told(x, "0", 0), 1);
        check.due("replay(0) of 1", Check.told(x, "1", 0), 1);
        check.due("replay(0) of 2", Check.told(x, "2", 0), 1);
        check.due("replay(0) of 20", Check.told(x, TWENTY, 0), 3);
        check.due("replay(0) of 20, the last matters", Check.told(x, "00000000000000000002", 0), 2);
        check.due("replay(5) of 20 of nothing", Check.told(Check.yard("ab"), TWENTY, 5), 0);
        check.due("replay(0) of no wagons", Check.told(new HumpYard(), TWENTY, 0), 0);
    }

    private static void replayFaults() {
        for (int what = 0; what < 6; what++) {
            HumpYard x = Check.yard("abc", "124");
            check.sentence("the first byte with which none go on");
            check.due("replay(what) of 3", Check.told(x, "3", what), -100);
            check.due("replay(what) of /", Check.told(x, "/", what), -100);
            check.due("replay(what) of 0123", Check.told(x, "0123", what), -103);
            check.due("replay(what) of 12a/", Check.told(x, "12a/", what), -102);
            check.due("replay(what) of 20 with a fault", Check.told(x, TWENTY.substring(1) + "3", what), -119);
            check.due("replay(what) of 21", Check.told(x, TWENTY + "0", what), -120);
            check.due("replay(what) of 20 and another byte", Check.told(x, TWENTY + "x", what), -120);
            check.due("replay(what) of 40", Check.told(x, TWENTY + TWENTY, what), -120);
            check.sentence("THE TAPE is empty behind each call that reads it");
            check.due("count(3)", x.count(3), 0);
        }
        check.sentence("NONE: what; -100 less the FAULT.");
        for (String text : new String[] {"", "01", "9"}) {
            HumpYard y = Check.yard("abc", "124");
            Check.feed(y, text);
            for (int wrong : Check.outside(0, 5)) {
                check.due("replay(" + wrong + ") of " + text, y.replay(wrong), -1);
            }
            check.due("count(3): the tape stays", y.count(3), text.length());
            check.due("replay(0) of " + text, y.replay(0), text.equals("9") ? -100 : text.length());
        }
    }

    private static void replayOver() {
        check.sentence("the first at which more than ROOM lies on a TRACK behind it: 0 as HUMPED, k + 1 by PULL k");
        HumpYard x = Check.yard("abc", "321");
        Check.rooms(x, 2, 2, 0);
        check.due("as much as ROOM", Check.told(x, "01", 1), -5);
        x.room(1, 1);
        check.due("by PULL 0", Check.told(x, "01", 1), 1);
        check.due("by PULL 2", Check.told(x, "2201", 1), 3);
        check.due("by no PULL", Check.told(x, "101", 1), -5);
        check.due("the first one, though it is over since", Check.told(x, "0222", 1), 1);
        check.due("by PULL 19", Check.told(x, "22222222222222222220", 1), 20);
        check.due("without PULLS", Check.told(x, "", 1), -5);
        x.room(0, 1);
        check.due("as HUMPED", Check.told(x, "", 1), 0);
        check.due("as HUMPED, and by PULL 0", Check.told(x, "0", 1), 0);
        check.sentence("(ROOM doesn't matter)");
        Check.rooms(x, 0, 0, 0);
        check.due("replay(0)", Check.told(x, "01", 0), 3);
        check.due("replay(5)", Check.told(x, "01", 5), 4);
        check.due("replay(1) of no wagons", Check.told(new HumpYard(), "012", 1), -5);
    }

    private static void replayAnswers() {
        check.sentence("2 TRACKS (bits) on which something lies");
        HumpYard x = Check.yard("ab|cd", "1247");
        check.due("replay(2) of none", Check.told(x, "", 2), 7);
        check.due("replay(2) of 0", Check.told(x, "0", 2), 6);
        check.due("replay(2) of 01", Check.told(x, "01", 2), 4);
        check.due("replay(2) of 10", Check.told(x, "10", 2), 6);
        check.due("replay(2) of 20", Check.told(x, "20", 2), 2);
        check.due("replay(2) of 012", Check.told(x, "012", 2), 0);
        check.sentence("3 WRONG of TRAIN 0 (-5: none), 4 of TRAIN 1");
        HumpYard y = Check.yard("ba|dc", "0110");
        check.due("replay(3): a is OUT ahead of b", Check.told(y, "", 3), 0);
        check.due("replay(4): d is OUT", Check.told(y, "", 4), -5);
        check.due("replay(4): d c", Check.told(y, "0", 4), -5);
        HumpYard far = Check.yard("|abcdefhg");
        check.due("replay(4) of the last two", Check.told(far, "", 4), 6);
        check.due("replay(3) of an empty train", Check.told(far, "", 3), -5);
        check.sentence("5 how many rolled by PULLS");
        check.due("replay(5) of none", Check.told(x, "", 5), 0);
        check.due("replay(5) of 0", Check.told(x, "0", 5), 2);
        check.due("replay(5) of 00", Check.told(x, "00", 5), 2);
        check.due("replay(5) of 012", Check.told(x, "012", 5), 6);
    }

    private static void replayAnyTime() {
        check.sentence("in thought they go, from CLEARED on, behind HUMPED");
        HumpYard x = Check.yard("abc", "124");
        check.due("replay(0) CLEARED", Check.told(x, "0", 0), 1);
        check.due("count(6) stays", x.count(6), 0);
        x.hump();
        x.pull(1);
        x.pull(2);
        check.due("replay(0) HUMPED", Check.told(x, "0", 0), 1);
        check.due("replay(2) HUMPED", Check.told(x, "", 2), 7);
        check.due("count(1) stays", x.count(1), 2);
        check.due("count(7) stays", x.count(7), 2);
        check.due("wagon(0, 5) stays", x.wagon(0, 5), 0);
    }

    // ---- promises 24 and 25

    private static void spellDue(HumpYard x, String text) {
        check.due("spell()", x.spell(), text.length());
        check.due("count(4)", x.count(4), text.length());
        check.due("the paper", Check.paper(x), text);
    }

    private static void spellTracks() {
        check.promise(24, "spell");
        check.sentence("for each PULL of a TRACK on which something lies");
        String[] due = {"Ha+", "Ha0;0a+", "Ha1;1a+", "Ha0;0a1;1a+", "Ha2;2a+", "Ha0;0a2;2a+", "Ha1;1a2;2a+",
            "Ha0;0a1;1a2;2a+"};
        for (int code = 0; code < 8; code++) {
            spellDue(Check.yard("a", "" + code), due[code]);
            spellDue(Check.yard("|a", "" + code), due[code].replace('+', '-'));
        }
        spellDue(new HumpYard(), "H");
        spellDue(Check.yard("hgfe|dcba", "77777777"),
            "Ha0b0c0d0e0f0g0h0;0a1b1c1d1e1f1g1h1;1a2b2c2d2e2f2g2h2;2a-b-c-d-e+f+g+h+");
    }

    private static void spellWholeRun() {
        check.sentence("in thought, from CLEARED on, HUMPED, then PULLS of TRACKS 0, 1, 2; ROOM doesn't matter");
        HumpYard x = Check.yard("ab|c", "310");
        Check.rooms(x, 0, 0, 0);
        spellDue(x, "Ha0b0c-;0a1b+;1a+");
        Check.rooms(x, 24, 24, 24);
        x.hump();
        x.pull(0);
        x.pull(1);
        spellDue(x, "Ha0b0c-;0a1b+;1a+");
        check.due("count(1) stays", x.count(1), 3);
        check.due("count(7) stays", x.count(7), 2);
        check.sentence("THE PAPER becomes the PROTOCOL");
        x.clear();
        x.yard();
        spellDue(x, "H");
    }

    private static void paper() {
        check.promise(25, "paper");
        check.sentence("Byte i of THE PAPER. NONE.");
        HumpYard x = Check.yard("abcdefgh", "77777777");
        for (int i : new int[] {Integer.MIN_VALUE, -1, 0, 1, 70, 71, Integer.MAX_VALUE}) {
            check.due("paper(" + i + ") at first", x.paper(i), -1);
        }
        x.spell();
        check.due("paper(0)", x.paper(0), 'H');
        check.due("paper(69)", x.paper(69), 'h');
        check.due("paper(70)", x.paper(70), '+');
        for (int wrong : Check.outside(0, 70)) {
            check.due("paper(" + wrong + ")", x.paper(wrong), -1);
        }
        check.sentence("THE PAPER holds the latest one");
        Check.feed(x, "a");
        x.yard();
        check.due("paper(70) behind yard()", x.paper(70), '+');
        x.spell();
        check.due("paper(2)", x.paper(2), '+');
        check.due("paper(3): the old one is gone", x.paper(3), -1);
        check.due("paper(70): the old one is gone", x.paper(70), -1);
    }
}
