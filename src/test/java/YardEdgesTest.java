/** Promises 1 to 10 and section 1 of the document: each sentence that names an edge has a test here. */
public final class YardEdgesTest {
    private static final Check check = new Check("YardEdgesTest");

    public static void main(String[] args) {
        newObject();
        feedNumbers();
        feedBytes();
        feedOrder();
        feedFull();
        yardLetters();
        yardBar();
        yardFaults();
        yardNumbers();
        yardMakesAllNew();
        codesFigures();
        codesFaults();
        codesThatMayNotBe();
        codesHumped();
        set();
        setOrder();
        room();
        brand();
        brandWords();
        wagonAsked();
        wagonWhere();
        wagonPresorted();
        wanted();
        track();
        trackFilled();
        check.end();
    }

    // ---- promise 1

    private static void newObject() {
        check.promise(1, "a new object");
        HumpYard used = Check.yard("ba", "21");
        used.brand(2);
        used.room(0, 3);
        used.list(0, 3);
        used.image();
        used.hump();
        used.spell();
        used.feed(1, 'a', 1, 1, 1);
        HumpYard x = new HumpYard();
        check.sentence("No WAGONS.");
        check.due("count(0)", x.count(0), 0);
        for (int what = 0; what < 8; what++) {
            check.due("wagon(0, what)", x.wagon(0, what), -1);
        }
        check.due("chains(2)", x.chains(2), 0);
        check.sentence("24 at first");
        for (int t = 0; t < 3; t++) {
            check.due("track(t, 0)", x.track(t, 0), 24);
        }
        check.sentence("BRAND (0 at first)");
        check.due("count(5)", x.count(5), 0);
        check.sentence("CLEARED: nothing is HUMPED, lies on TRACKS, is OUT (so at first)");
        check.due("count(6)", x.count(6), 0);
        check.due("count(1)", x.count(1), 0);
        check.due("count(2)", x.count(2), 0);
        check.due("pull(0)", x.pull(0), -3);
        check.sentence("THE PAPER holds the latest one (nothing at first)");
        check.due("count(4)", x.count(4), 0);
        check.due("paper(0)", x.paper(0), -1);
        check.sentence("LISTS 0 .. 3 hold nothing (at first)");
        for (int list = 0; list < 4; list++) {
            check.due("put(list, 0, 0)", x.put(list, 0, 0), -11);
        }
        check.sentence("STATE: there is none");
        check.due("undo()", x.undo(), -3);
        check.due("count(3)", x.count(3), 0);
    }

    // ---- promise 2

    private static void feedNumbers() {
        check.promise(2, "feed");
        check.sentence("n bytes (1 .. 4)");
        HumpYard x = new HumpYard();
        for (int n : Check.outside(1, 4)) {
            check.due("feed(" + n + ", ..)", x.feed(n, 'a', 'b', 'c', 'd'), -2);
        }
        check.due("count(3)", x.count(3), 0);
        int held = 0;
        for (int n = 1; n <= 4; n++) {
            held += n;
            check.due("feed(" + n + ", ..)", x.feed(n, 'a', 'b', 'c', 'd'), held);
        }
    }

    private static void feedBytes() {
        for (int n = 1; n <= 4; n++) {
            for (int place = 0; place < 4; place++) {
                check.sentence(place < n ? "all 1 .. 127" : "also those that are not asked");
                HumpYard x = new HumpYard();
                for (int wrong : Check.outside(1, 127)) {
                    check.due("feed(" + n + ", " + wrong + " at " + place + ")", feedWith(x, n, place, wrong), -2);
                }
                check.due("count(3)", x.count(3), 0);
                check.due("feed(" + n + ", 1 at " + place + ")", feedWith(x, n, place, 1), n);
                check.due("feed(" + n + ", 127 at " + place + ")", feedWith(x, n, place, 127), 2 * n);
            }
        }
    }

    private static int feedWith(HumpYard x, int n, int place, int v) {
        return x.feed(n, place == 0 ? v : 'a', place == 1 ? v : 'b', place == 2 ? v : 'c', place == 3 ? v : 'd');
    }

    private static void feedOrder() {
        check.sentence("come behind THE TAPE");
        for (int n = 1; n <= 4; n++) {
            HumpYard x = Check.yard("abcdefgh");
            Check.feed(x, "1234".substring(0, 4 - n));
            x.feed(n, '5', '6', '7', '0');
            Check.feed(x, "7654");
            check.due("codes() behind feed(" + n + ", ..)", x.codes(), 8);
            String row = "1234".substring(0, 4 - n) + "5670".substring(0, n) + "7654";
            check.due("codes", Check.codes(x), Long.parseLong(row));
        }
    }

    private static HumpYard fed(int many) {
        HumpYard x = new HumpYard();
        for (int i = 0; i < many; i++) {
            x.feed(1, 'a', 1, 1, 1);
        }
        return x;
    }

    private static void feedFull() {
        check.sentence("FULL: they have no room.");
        for (int n = 1; n <= 4; n++) {
            HumpYard x = fed(41 - n);
            check.due("feed(" + n + ", ..) behind " + (41 - n), x.feed(n, 'a', 'a', 'a', 'a'), -4);
            check.due("count(3): none came", x.count(3), 41 - n);
            HumpYard y = fed(40 - n);
            check.due("feed(" + n + ", ..) behind " + (40 - n), y.feed(n, 'a', 'a', 'a', 'a'), 40);
            check.due("feed(1, ..) behind 40", y.feed(1, 'a', 'a', 'a', 'a'), -4);
            check.due("feed(4, ..) behind 40", y.feed(4, 'a', 'a', 'a', 'a'), -4);
        }
        check.sentence("BAD; FULL");
        HumpYard full = fed(40);
        check.due("feed(5, ..) behind 40", full.feed(5, 'a', 'a', 'a', 'a'), -2);
        check.due("feed(0, ..) behind 40", full.feed(0, 'a', 'a', 'a', 'a'), -2);
        check.due("feed(1, .., 128) behind 40", full.feed(1, 'a', 'a', 'a', 128), -2);
        check.sentence("THE TAPE is empty behind each call that reads it");
        check.due("yard()", full.yard(), -101);
        check.due("feed(4, ..) behind yard()", full.feed(4, 'a', 'b', 'c', 'd'), 4);
        check.due("yard()", full.yard(), 4);
    }

    // ---- promise 3

    private static void yardDue(String text, int due) {
        HumpYard x = Check.yard("cab|d", "1234");
        x.hump();
        Check.feed(x, text);
        check.due("yard() of " + text, x.yard(), due);
        check.due("count(3) behind yard() of " + text, x.count(3), 0);
        if (due < 0) {
            check.due("count(0): the yard stays", x.count(0), 4);
            check.due("codes stay", Check.codes(x), 1234);
            check.due("wanted(0, 0) stays", x.wanted(0, 0), 2);
            check.due("count(6): HUMPED still", x.count(6), 1);
            check.due("count(2) stays", x.count(2), 4);
        } else {
            check.due("count(0)", x.count(0), due);
            check.due("count(6)", x.count(6), 0);
        }
    }

    private static void yardLetters() {
        check.promise(3, "yard");
        check.sentence("letters a .. h");
        yardDue("abcdefgh", 8);
        yardDue("hgfedcba", 8);
        yardDue("a", 1);
        for (char wrong : new char[] {1, ' ', '0', 'A', 'H', '`', 'i', 'z', '{', '}', 127}) {
            yardDue("" + wrong, -100);
            yardDue("" + wrong + wrong, -100);
            yardDue("ba|" + wrong, -103);
        }
        yardDue("abcdefghi", -108);
        check.sentence("none twice");
        yardDue("aa", -101);
        yardDue("a|a", -102);
        yardDue("hgfedcbah", -108);
        yardDue("abcd|efgha", -109);
        yardDue("abcdefg|hh", -109);
    }

    private static void yardBar() {
        check.sentence("then, perhaps, | and those of TRAIN 1 (a TRAIN may have none)");
        yardParts("", 0, 0);
        yardParts("|", 0, 0);
        yardParts("ab", 2, 0);
        yardParts("ab|", 2, 0);
        yardParts("|ab", 0, 2);
        yardParts("b|a", 1, 1);
        yardParts("abcdefgh|", 8, 0);
        yardParts("|abcdefgh", 0, 8);
        yardParts("bcdefgh|a", 7, 1);
        yardDue("||", -101);
        yardDue("|a|", -102);
        yardDue("abcdefgh||", -109);
    }

    private static void yardParts(String text, int first, int second) {
        yardDue(text, first + second);
        HumpYard x = Check.yard(text);
        check.due("wanted(0, -1) of " + text, x.wanted(0, -1), first);
        check.due("wanted(1, -1) of " + text, x.wanted(1, -1), second);
    }

    private static void yardFaults() {
        check.sentence("the first byte with which no YARD goes on");
        yardDue("ba0b|0|", -102);
        yardDue("|||", -101);
        yardDue("aaaaaaaaaaaaaaaaaaaaaaaaaaaaaaaaaaaaaaaa", -101);
        yardDue("ab|cdefgh|aaaaaaaaaaaaaaaaaaaaaaaaaaaaaa", -109);
        check.sentence("if there is none, the first letter");
        // h is a letter too great, but the byte with which none goes on is told ahead of it
        yardDue("h0", -101);
        yardDue("hh", -101);
        yardDue("|hab|", -104);
    }

    private static void yardNumbers() {
        check.sentence("the first letter whose number is as many as there are letters, or more");
        yardDue("b", -100);
        yardDue("h", -100);
        yardDue("ac", -101);
        yardDue("ah", -101);
        yardDue("ca", -100);
        yardDue("bc", -101);
        yardDue("cd", -100);
        yardDue("|b", -101);
        yardDue("b|", -100);
        // the bar is a byte of the tape, but no letter
        yardDue("a|c", -102);
        yardDue("a|b", 2);
        yardDue("ab|ed", -103);
        yardDue("abcdefh", -106);
        yardDue("bcdefgh", -106);
        yardDue("hgfedcb", -100);
        yardDue("gfedcba", 7);
        yardDue("abcd|fgh", -107);
    }

    private static void yardMakesAllNew() {
        check.sentence("all have LENGTH 1, CODE 0, all is CLEARED");
        HumpYard x = Check.yard("abcdefgh", "76543217");
        for (int w = 0; w < 8; w++) {
            x.set(w, 0, 3);
        }
        x.hump();
        x.pull(0);
        x.pull(1);
        Check.feed(x, "hgfe|abcd");
        check.due("yard()", x.yard(), 8);
        for (int w = 0; w < 8; w++) {
            check.due("wagon(w, 0)", x.wagon(w, 0), 1);
            check.due("wagon(w, 1)", x.wagon(w, 1), 0);
            check.due("wagon(w, 5)", x.wagon(w, 5), -5);
        }
        check.due("count(1)", x.count(1), 0);
        check.due("count(2)", x.count(2), 0);
        check.due("count(6)", x.count(6), 0);
        check.due("count(7)", x.count(7), 0);
        check.due("yard() of an empty tape", x.yard(), 0);
        check.due("wagon(0, 0)", x.wagon(0, 0), -1);
        check.due("wanted(0, 0)", x.wanted(0, 0), -1);
        check.due("hump() of no wagons", x.hump(), 0);
    }

    // ---- promise 4

    private static void codesDue(String yard, String text, int due) {
        String old = "12345671".substring(0, yard.replace("|", "").length());
        HumpYard x = Check.yard(yard, old);
        Check.feed(x, text);
        check.due("codes() of " + text + " for " + yard, x.codes(), due);
        check.due("count(3)", x.count(3), 0);
        String then = due < 0 ? old : text;
        check.due("codes behind " + text, Check.codes(x), then.isEmpty() ? 0 : Long.parseLong(then));
    }

    private static void codesFigures() {
        check.promise(4, "codes");
        check.sentence("as many figures 0 .. 7 as there are WAGONS, 0's first");
        codesDue("", "", 0);
        codesDue("|", "", 0);
        codesDue("a", "0", 1);
        codesDue("a", "7", 1);
        codesDue("hgfe|dcba", "01234567", 8);
        codesDue("abcdefgh", "76543210", 8);
        codesDue("|ba", "70", 2);
    }

    private static void codesFaults() {
        check.sentence("the first byte with which none go on");
        codesDue("a", "8", -100);
        codesDue("a", "/", -100);
        codesDue("a", "a", -100);
        codesDue("abc", "78/", -101);
        codesDue("abc", "77|", -102);
        codesDue("abcdefgh", "7777777" + (char) 127, -107);
        codesDue("abcdefgh", (char) 1 + "7777777", -100);
        codesDue("", "0", -100);
        codesDue("a", "00", -101);
        codesDue("abcdefgh", "012345670", -108);
        codesDue("abcdefgh", "0000000000000000000000000000000000000000", -108);
        codesDue("ab", "009", -102);
        check.sentence("the length, if they end too early");
        codesDue("a", "", -100);
        codesDue("abcdefgh", "", -100);
        codesDue("abcdefgh", "0123456", -107);
        codesDue("ab", "7", -101);
        codesDue("abc", "9", -100);
    }

    private static void codesThatMayNotBe() {
        check.sentence("whether they may be, or not");
        for (int brand = 0; brand < 4; brand++) {
            HumpYard x = Check.yard("ba");
            x.brand(brand);
            Check.rooms(x, 0, 0, 0);
            Check.feed(x, "57");
            check.due("codes() by brand " + brand, x.codes(), 2);
            check.due("codes", Check.codes(x), 57);
        }
    }

    private static void codesHumped() {
        for (String text : new String[] {"", "7", "75", "759", "x"}) {
            check.sentence("STATE: it is HUMPED.");
            HumpYard x = Check.yard("ba", "12");
            x.hump();
            Check.feed(x, text);
            check.due("codes() HUMPED, of " + text, x.codes(), -3);
            check.sentence("THE TAPE is empty behind each call that reads it, but by NONE, STATE");
            check.due("count(3)", x.count(3), text.length());
            check.due("codes stay", Check.codes(x), 12);
        }
        HumpYard x = Check.yard("ba", "12");
        x.hump();
        Check.feed(x, "75");
        x.codes();
        x.clear();
        check.due("codes() CLEARED", x.codes(), 2);
        check.due("codes", Check.codes(x), 75);
    }

    // ---- promise 5

    private static void set() {
        check.promise(5, "set");
        check.sentence("LENGTH (1 .. 3)");
        HumpYard x = Check.yard("ba|c");
        for (int wrong : Check.outside(1, 3)) {
            check.due("set(2, 0, " + wrong + ")", x.set(2, 0, wrong), -2);
        }
        check.due("set(2, 0, 3): what it was", x.set(2, 0, 3), 1);
        check.due("set(2, 0, 3) again", x.set(2, 0, 3), 3);
        check.due("set(2, 0, 1)", x.set(2, 0, 1), 3);
        check.due("set(2, 0, 2)", x.set(2, 0, 2), 1);
        check.sentence("a CODE (0 .. 7)");
        for (int wrong : Check.outside(0, 7)) {
            check.due("set(0, 1, " + wrong + ")", x.set(0, 1, wrong), -2);
        }
        for (int v = 7; v >= 0; v--) {
            check.due("set(0, 1, " + v + ")", x.set(0, 1, v), v == 7 ? 0 : v + 1);
        }
        check.due("wagon(2, 0)", x.wagon(2, 0), 2);
        check.due("wagon(0, 0) stays", x.wagon(0, 0), 1);
        check.due("wagon(1, 0) stays", x.wagon(1, 0), 1);
        check.due("codes", Check.codes(x), 0);
    }

    private static void setOrder() {
        check.sentence("NONE: wagon, what; BAD; STATE: it is HUMPED.");
        HumpYard x = Check.yard("abc", "111");
        HumpYard humped = Check.yard("abc", "111");
        humped.hump();
        for (HumpYard y : new HumpYard[] {x, humped}) {
            for (int wrong : Check.outside(0, 2)) {
                check.due("set(" + wrong + ", 0, 1)", y.set(wrong, 0, 1), -1);
                check.due("set(" + wrong + ", 1, 9)", y.set(wrong, 1, 9), -1);
            }
            for (int wrong : Check.outside(0, 1)) {
                check.due("set(0, " + wrong + ", 1)", y.set(0, wrong, 1), -1);
                check.due("set(0, " + wrong + ", 9)", y.set(0, wrong, 9), -1);
            }
            check.due("set(0, 0, 0)", y.set(0, 0, 0), -2);
            check.due("set(0, 0, 4)", y.set(0, 0, 4), -2);
            check.due("set(0, 1, -1)", y.set(0, 1, -1), -2);
            check.due("set(0, 1, 8)", y.set(0, 1, 8), -2);
        }
        check.due("set(0, 0, 1) HUMPED", humped.set(0, 0, 1), -3);
        check.due("set(0, 1, 1) HUMPED", humped.set(0, 1, 1), -3);
        humped.clear();
        check.due("set(0, 1, 7) CLEARED", humped.set(0, 1, 7), 1);
        check.due("set(0, 0, 1) of no wagons", new HumpYard().set(0, 0, 1), -1);
    }

    // ---- promise 6

    private static void room() {
        check.promise(6, "room");
        check.sentence("ROOM (0 .. 24; 24 at first)");
        HumpYard x = Check.yard("a");
        for (int t = 0; t < 3; t++) {
            for (int wrong : Check.outside(0, 24)) {
                check.due("room(t, " + wrong + ")", x.room(t, wrong), -2);
            }
            check.due("room(t, 24)", x.room(t, 24), 24);
            check.due("room(t, 0)", x.room(t, 0), 24);
            check.due("room(t, 24)", x.room(t, 24), 0);
            check.due("room(t, t)", x.room(t, t), 24);
        }
        for (int t = 0; t < 3; t++) {
            check.due("track(t, 0)", x.track(t, 0), t);
        }
        check.sentence("NONE; BAD; STATE: it is HUMPED.");
        for (int humped = 0; humped < 2; humped++) {
            for (int wrong : Check.outside(0, 2)) {
                check.due("room(" + wrong + ", 5)", x.room(wrong, 5), -1);
                check.due("room(" + wrong + ", 25)", x.room(wrong, 25), -1);
            }
            check.due("room(0, 25)", x.room(0, 25), -2);
            check.due("room(0, -1)", x.room(0, -1), -2);
            x.hump();
        }
        check.due("room(2, 5) HUMPED", x.room(2, 5), -3);
        check.due("track(2, 0) stays", x.track(2, 0), 2);
        x.clear();
        check.due("room(2, 5) CLEARED", x.room(2, 5), 2);
    }

    // ---- promise 7

    private static void brand() {
        check.promise(7, "brand");
        check.sentence("BRAND becomes k: what it was. NONE.");
        HumpYard x = new HumpYard();
        for (int wrong : Check.outside(0, 3)) {
            check.due("brand(" + wrong + ")", x.brand(wrong), -1);
        }
        for (int k = 0; k < 4; k++) {
            check.due("brand(" + k + ")", x.brand(k), Math.max(0, k - 1));
            check.due("brand(" + k + ") again", x.brand(k), k);
        }
        x.hump();
        check.due("brand(0) HUMPED", x.brand(0), 3);
    }

    private static void brandWords() {
        int[][] may = {{0, 1, 2, 3, 4, 5, 6, 7}, {0, 1, 2, 4}, {0, 1, 2, 3, 4, 5, 6}, {0, 1, 2, 3, 4, 6}};
        String[] words = {"0 WIDE: all may be", "1 SIMPLE under WIDE: with one 1 at most",
            "2 TRIANGLE under WIDE: with two 1s at most", "3 NEAT under TRIANGLE: but two 1s side by side alone"};
        for (int k = 0; k < 4; k++) {
            check.sentence(words[k]);
            HumpYard x = Check.yard("a");
            x.brand(k);
            int bits = 0;
            for (int code : may[k]) {
                bits |= 1 << code;
            }
            for (int code = 0; code < 8; code++) {
                check.due("fewest(10 + " + code + ")", x.fewest(10 + code), bits >> code & 1);
                x.set(0, 1, code);
                check.due("right(1) by " + code, x.right(1), bits >> code & 1);
            }
            check.due("fewest(1)", x.fewest(1), may[k].length);
        }
    }

    // ---- promise 8

    private static void wagonAsked() {
        check.promise(8, "wagon");
        check.sentence("NONE.");
        HumpYard x = Check.yard("ba|c");
        for (int what = 0; what < 8; what++) {
            for (int wrong : Check.outside(0, 2)) {
                check.due("wagon(" + wrong + ", what)", x.wagon(wrong, what), -1);
            }
        }
        for (int wrong : Check.outside(0, 7)) {
            check.due("wagon(0, " + wrong + ")", x.wagon(0, wrong), -1);
        }
        check.sentence("they are numbered from 0 on");
        HumpYard falling = Check.yard("hgfedcba");
        HumpYard rising = Check.yard("|abcdefgh");
        for (int w = 0; w < 8; w++) {
            check.due("wagon(w, 3) falling", falling.wagon(w, 3), 7 - w);
            check.due("wagon(w, 4) falling", falling.wagon(w, 4), 7 - w);
            check.due("wagon(w, 3) rising", rising.wagon(w, 3), w);
            check.due("wagon(w, 4) rising", rising.wagon(w, 4), 0);
            check.due("wagon(w, 2) rising", rising.wagon(w, 2), 1);
        }
        check.sentence("6 how many 1s its CODE has");
        int[] ones = {0, 1, 1, 2, 1, 2, 2, 3};
        for (int code = 0; code < 8; code++) {
            x.set(1, 1, code);
            check.due("wagon(1, 6) by " + code, x.wagon(1, 6), ones[code]);
        }
    }

    private static void wagonWhere() {
        check.sentence("5 where it is: 0 .. 2 on a TRACK, 10 and the TRAIN OUT, -5 neither");
        HumpYard x = Check.yard("abc|def", "124007");
        for (int w = 0; w < 6; w++) {
            check.due("wagon(w, 5) CLEARED", x.wagon(w, 5), -5);
        }
        x.hump();
        int[] humped = {0, 1, 2, 11, 11, 0};
        for (int w = 0; w < 6; w++) {
            check.due("wagon(w, 5) HUMPED", x.wagon(w, 5), humped[w]);
        }
        x.pull(0);
        x.pull(1);
        x.pull(2);
        int[] run = {10, 10, 10, 11, 11, 11};
        for (int w = 0; w < 6; w++) {
            check.due("wagon(w, 5) pulled", x.wagon(w, 5), run[w]);
        }
        x.clear();
        check.due("wagon(0, 5) CLEARED", x.wagon(0, 5), -5);
        x.room(0, 0);
        x.hump();
        check.due("wagon(3, 5) behind FULL", x.wagon(3, 5), -5);
    }

    private static void wagonPresorted() {
        check.sentence("7 the CODE it has PRESORTED (-5: FEWEST is above 3)");
        // as many chains as codes may be, then one more
        String[] fits = {"hgfedcba", "dcba", "gfedcba", "fedcba"};
        int[] last = {7, 4, 6, 6};
        String[] over = {"hgfedcba", "edcba", "hgfedcba", "gfedcba"};
        for (int k = 0; k < 4; k++) {
            HumpYard x = Check.yard(fits[k]);
            x.brand(k);
            check.due("wagon(0, 7) of " + fits[k] + " by " + k, x.wagon(0, 7), last[k]);
            if (k > 0) {
                HumpYard y = Check.yard(over[k]);
                y.brand(k);
                check.due("wagon(0, 7) of " + over[k] + " by " + k, y.wagon(0, 7), -5);
                check.due("wagon(last, 7) of " + over[k] + " by " + k, y.wagon(y.count(0) - 1, 7), -5);
            }
        }
        HumpYard other = Check.yard("edcba|f");
        other.brand(1);
        check.due("wagon(5, 7): TRAIN 0's chains are too many", other.wagon(5, 7), -5);
        other.hump();
        other.brand(0);
        check.due("wagon(0, 7) HUMPED", other.wagon(0, 7), 4);
    }

    // ---- promise 9

    private static void wanted() {
        check.promise(9, "wanted");
        check.sentence("(place -1: how many). NONE.");
        HumpYard x = Check.yard("ca|deb");
        int[] size = {2, 3};
        int[][] row = {{2, 0}, {3, 4, 1}};
        for (int train = 0; train < 2; train++) {
            check.due("wanted(train, -1)", x.wanted(train, -1), size[train]);
            for (int place = 0; place < size[train]; place++) {
                check.due("wanted(train, place)", x.wanted(train, place), row[train][place]);
            }
            for (int wrong : new int[] {Integer.MIN_VALUE, -2, size[train], 7, 8, 255, Integer.MAX_VALUE}) {
                check.due("wanted(train, " + wrong + ")", x.wanted(train, wrong), -1);
            }
        }
        for (int wrong : Check.outside(0, 1)) {
            check.due("wanted(" + wrong + ", -1)", x.wanted(wrong, -1), -1);
            check.due("wanted(" + wrong + ", 0)", x.wanted(wrong, 0), -1);
        }
        HumpYard most = Check.yard("hgfedcba");
        check.due("wanted(0, -1)", most.wanted(0, -1), 8);
        check.due("wanted(0, 7)", most.wanted(0, 7), 0);
        check.due("wanted(0, 8)", most.wanted(0, 8), -1);
        check.due("wanted(1, -1)", most.wanted(1, -1), 0);
        check.due("wanted(1, 0)", most.wanted(1, 0), -1);
    }

    // ---- promise 10

    private static void track() {
        check.promise(10, "track");
        check.sentence("10 and i the i-th WAGON that lies there. NONE.");
        HumpYard x = Check.yard("abc", "110");
        for (int humped = 0; humped < 2; humped++) {
            for (int wrong : Check.outside(0, 2)) {
                check.due("track(" + wrong + ", 0)", x.track(wrong, 0), -1);
                check.due("track(" + wrong + ", 1)", x.track(wrong, 1), -1);
                check.due("track(" + wrong + ", 2)", x.track(wrong, 2), -1);
                check.due("track(" + wrong + ", 10)", x.track(wrong, 10), -1);
            }
            for (int wrong : new int[] {Integer.MIN_VALUE, Integer.MIN_VALUE + 9, Integer.MIN_VALUE + 10, -10, -1, 3, 9,
                12, 18, 266, Integer.MAX_VALUE}) {
                check.due("track(0, " + wrong + ")", x.track(0, wrong), -1);
            }
            check.due("track(0, 10)", x.track(0, 10), humped == 0 ? -1 : 0);
            check.due("track(0, 11)", x.track(0, 11), humped == 0 ? -1 : 1);
            x.hump();
        }
        check.due("track(1, 10): nothing lies there", x.track(1, 10), -1);
        x.clear();
        check.due("track(0, 10) CLEARED", x.track(0, 10), -1);
        check.due("track(0, 1) CLEARED", x.track(0, 1), 0);
    }

    private static void trackFilled() {
        check.sentence("1 LENGTHS that lie there, together, 2 LOAD");
        HumpYard x = Check.yard("abcdefgh", "77777777");
        for (int w = 0; w < 8; w++) {
            x.set(w, 0, 3);
        }
        check.due("hump(): 24 of 24", x.hump(), 0);
        for (int t = 0; t < 3; t++) {
            for (int other = 0; other < 3; other++) {
                check.due("track(other, 1)", x.track(other, 1), other == t ? 24 : 0);
                check.due("track(other, 2)", x.track(other, 2), 24);
            }
            check.due("track(t, 17)", x.track(t, 17), 7);
            check.due("track(t, 18)", x.track(t, 18), -1);
            check.due("pull(t)", x.pull(t), 8);
        }
        HumpYard none = new HumpYard();
        check.due("track(0, 1) of no wagons", none.track(0, 1), 0);
        check.due("track(0, 2) of no wagons", none.track(0, 2), 0);
    }
}
