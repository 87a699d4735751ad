/** Promises 18 to 25: the hump, pulls, what is out, what is wrong, replays, the protocol. */
public final class HumpTest {
    private static final Check check = new Check("HumpTest");

    public static void main(String[] args) {
        hump();
        pull();
        pullFull();
        clear();
        out();
        wrong();
        replay();
        replayFaults();
        spell();
        paper();
        check.end();
    }

    private static void hump() {
        check.promise(18, "hump");
        HumpYard x = Check.yard("abcd|ef", "036042");
        check.due("hump()", x.hump(), 2);
        check.due("count(6)", x.count(6), 1);
        check.due("count(7)", x.count(7), 0);
        check.due("out(0, 1)", x.out(0, 1), 3);
        check.due("track(0, 10)", x.track(0, 10), 1);
        check.due("track(1, 10)", x.track(1, 10), 2);
        check.due("track(1, 11)", x.track(1, 11), 5);
        check.due("track(2, 10)", x.track(2, 10), 4);
        check.due("hump() HUMPED", x.hump(), -3);
        check.due("hump() of no wagons", new HumpYard().hump(), 0);
        for (int t = 0; t < 3; t++) {
            HumpYard tight = Check.yard("ab", t == 0 ? "11" : t == 1 ? "22" : "44");
            tight.set(1, 0, 3);
            tight.room(t, 3);
            check.due("hump() into 3 of 4", tight.hump(), -4);
            check.due("count(6)", tight.count(6), 0);
            check.due("count(2)", tight.count(2), 0);
            tight.room(t, 4);
            check.due("hump() into 4 of 4", tight.hump(), 0);
            check.due("track(t, 1)", tight.track(t, 1), 4);
        }
    }

    private static void pull() {
        check.promise(19, "pull");
        HumpYard x = Check.yard("abc", "321");
        check.due("pull(0) not HUMPED", x.pull(0), -3);
        check.due("pull(3) not HUMPED", x.pull(3), -1);
        check.due("count(7)", x.count(7), 0);
        x.hump();
        check.due("pull(-1)", x.pull(-1), -1);
        check.due("pull(3)", x.pull(3), -1);
        check.due("pull(2): nothing lies there", x.pull(2), 0);
        check.due("count(7)", x.count(7), 1);
        check.due("pull(0)", x.pull(0), 2);
        check.due("track(1, 10): behind what lies there", x.track(1, 10), 1);
        check.due("track(1, 11)", x.track(1, 11), 0);
        check.due("pull(1)", x.pull(1), 2);
        int[] row = {2, 1, 0};
        for (int i = 0; i < 3; i++) {
            check.due("out(0, i)", x.out(0, i), row[i]);
        }
        check.due("count(7)", x.count(7), 3);
        HumpYard jump = Check.yard("ab", "57");
        jump.hump();
        check.due("pull(0)", jump.pull(0), 2);
        check.due("track(2, 10): over 1", jump.track(2, 10), 0);
        check.due("track(1, 10)", jump.track(1, 10), 1);
        check.due("pull(1)", jump.pull(1), 1);
        check.due("track(2, 11)", jump.track(2, 11), 1);
        check.due("pull(2)", jump.pull(2), 2);
        check.due("out(0, -1)", jump.out(0, -1), 2);
    }

    private static void pullFull() {
        HumpYard x = Check.yard("abc", "321");
        x.room(1, 1);
        x.hump();
        check.due("pull(0) into a full track", x.pull(0), -4);
        check.due("count(7)", x.count(7), 0);
        check.due("track(0, 10)", x.track(0, 10), 0);
        check.due("track(0, 11)", x.track(0, 11), 2);
        check.due("track(1, 11)", x.track(1, 11), -1);
        check.due("count(1)", x.count(1), 0);
        check.due("pull(1)", x.pull(1), 1);
        check.due("pull(0) has room now", x.pull(0), 2);
        check.due("pull(1)", x.pull(1), 1);
        check.due("count(1)", x.count(1), 3);
        HumpYard y = Check.yard("ab", "50");
        y.set(0, 0, 3);
        y.room(2, 2);
        y.hump();
        check.due("pull(0) into 2 of 3", y.pull(0), -4);
        check.due("wagon(0, 5)", y.wagon(0, 5), 0);
    }

    private static void clear() {
        check.promise(20, "clear");
        HumpYard x = Check.yard("ab|cd", "0101");
        check.due("clear() not HUMPED", x.clear(), 0);
        x.room(1, 5);
        x.hump();
        x.pull(1);
        check.due("clear()", x.clear(), 2);
        check.due("count(1)", x.count(1), 0);
        check.due("count(2)", x.count(2), 0);
        check.due("count(6)", x.count(6), 0);
        check.due("count(7)", x.count(7), 0);
        check.due("wagon(0, 5)", x.wagon(0, 5), -5);
        check.due("codes stay", Check.codes(x), 101);
        check.due("track(1, 0)", x.track(1, 0), 5);
        check.due("clear() again", x.clear(), 0);
        check.due("hump()", x.hump(), 2);
        check.due("count(7)", x.count(7), 0);
    }

    private static void out() {
        check.promise(21, "out");
        HumpYard x = Check.yard("ac|bd", "1000");
        check.due("out(0, -1)", x.out(0, -1), 0);
        check.due("out(0, 0)", x.out(0, 0), -1);
        x.hump();
        check.due("out(0, -1)", x.out(0, -1), 1);
        check.due("out(0, 0)", x.out(0, 0), 2);
        check.due("out(0, 1)", x.out(0, 1), -1);
        check.due("out(1, -1)", x.out(1, -1), 2);
        check.due("out(1, 0)", x.out(1, 0), 1);
        check.due("out(1, 1)", x.out(1, 1), 3);
        x.pull(0);
        check.due("out(0, 1)", x.out(0, 1), 0);
        check.due("out(0, -2)", x.out(0, -2), -1);
        check.due("out(2, -1)", x.out(2, -1), -1);
        check.due("out(-1, -1)", x.out(-1, -1), -1);
    }

    private static void wrong() {
        check.promise(22, "wrong");
        HumpYard x = Check.yard("acb|ed", "01200");
        check.due("wrong(0): nothing is OUT", x.wrong(0), -1);
        x.hump();
        check.due("wrong(0): a is OUT", x.wrong(0), -1);
        check.due("wrong(1): d e, not e d", x.wrong(1), 0);
        x.pull(0);
        check.due("wrong(0): a b, not a c", x.wrong(0), 1);
        x.pull(1);
        check.due("wrong(0)", x.wrong(0), 1);
        check.due("wrong(2)", x.wrong(2), -2);
        check.due("wrong(-1)", x.wrong(-1), -2);
        x.clear();
        check.due("wrong(1) cleared", x.wrong(1), -1);
    }

    private static void replay() {
        check.promise(23, "replay");
        HumpYard x = Check.yard("abc|de", "32140");
        replayDue(x, "", 1, -5, 7, -5, 0, 0);
        replayDue(x, "0", 2, -5, 6, 0, 0, 2);
        replayDue(x, "01", 4, -5, 4, 0, 0, 4);
        replayDue(x, "012", 5, -5, 0, 0, 0, 5);
        replayDue(x, "2", 2, -5, 3, -5, 0, 1);
        replayDue(x, "101", 4, -5, 4, 0, 0, 4);
        replayDue(x, "22222222222222222222", 2, -5, 3, -5, 0, 1);
        x.room(1, 1);
        replayDue(x, "201", 5, 2, 0, 0, 0, 5);
        replayDue(x, "101", 4, -5, 4, 0, 0, 4);
        x.room(0, 1);
        replayDue(x, "01", 4, 0, 4, 0, 0, 4);
        x.room(0, 2);
        x.hump();
        x.pull(1);
        replayDue(x, "0", 2, 1, 6, 0, 0, 2);
        check.due("count(7) stays", x.count(7), 1);
        check.due("count(1) stays", x.count(1), 2);
        HumpYard later = Check.yard("abc", "012");
        replayDue(later, "", 1, -5, 3, -5, -5, 0);
        replayDue(later, "10", 3, -5, 0, 1, -5, 2);
        replayDue(later, "01", 3, -5, 0, -5, -5, 2);
    }

    private static void replayDue(HumpYard x, String pulls, int... answers) {
        for (int what = 0; what < 6; what++) {
            check.due("replay(" + what + ") of '" + pulls + "'", Check.told(x, pulls, what), answers[what]);
            check.due("count(3)", x.count(3), 0);
        }
    }

    private static void replayFaults() {
        HumpYard x = Check.yard("ab", "12");
        check.due("replay of 3", Check.told(x, "3", 0), -100);
        check.due("replay of 012/", Check.told(x, "012/", 1), -103);
        check.due("replay of 0a", Check.told(x, "0a", 5), -101);
        check.due("count(3)", x.count(3), 0);
        check.due("replay of 20", Check.told(x, "01201201201201201201", 0), 2);
        check.due("replay of 21", Check.told(x, "012012012012012012012", 0), -120);
        check.due("replay of 21 with a fault", Check.told(x, "0120120120120120120a", 0), -119);
        Check.feed(x, "0a");
        check.due("replay(6) with a fault", x.replay(6), -1);
        check.due("replay(-1)", x.replay(-1), -1);
        check.due("count(3): the tape stays", x.count(3), 2);
        check.due("replay(0)", x.replay(0), -101);
    }

    private static void spellDue(HumpYard x, String text) {
        check.due("spell() of " + text, x.spell(), text.length());
        check.due("count(4)", x.count(4), text.length());
        if (Check.paper(x).equals(text)) {
            check.passed();
        } else {
            check.fail("spell() made " + Check.paper(x) + ", due is " + text);
        }
    }

    private static void spell() {
        check.promise(24, "spell");
        HumpYard x = Check.yard("abc|de", "32140");
        spellDue(x, "Ha0b1c0d2e-;0a1c+;1b+a+;2d-");
        Check.rooms(x, 0, 0, 0);
        spellDue(x, "Ha0b1c0d2e-;0a1c+;1b+a+;2d-");
        Check.rooms(x, 24, 24, 24);
        x.hump();
        x.pull(0);
        spellDue(x, "Ha0b1c0d2e-;0a1c+;1b+a+;2d-");
        check.due("count(7) stays", x.count(7), 1);
        check.due("track(1, 11) stays", x.track(1, 11), 0);
        spellDue(Check.yard("ab", "40"), "Ha2b+;2a+");
        spellDue(Check.yard("ab", "05"), "Ha+b0;0b2;2b+");
        spellDue(new HumpYard(), "H");
        spellDue(Check.yard("abcd|efgh", "77777777"),
            "Ha0b0c0d0e0f0g0h0;0a1b1c1d1e1f1g1h1;1a2b2c2d2e2f2g2h2;2a+b+c+d+e-f-g-h-");
        HumpYard shorter = Check.yard("ab", "77");
        shorter.spell();
        Check.feed(shorter, "00");
        shorter.codes();
        spellDue(shorter, "Ha+b+");
    }

    private static void paper() {
        check.promise(25, "paper");
        HumpYard x = Check.yard("a");
        check.due("paper(0) at first", x.paper(0), -1);
        x.spell();
        check.due("paper(0)", x.paper(0), 'H');
        check.due("paper(1)", x.paper(1), 'a');
        check.due("paper(2)", x.paper(2), '+');
        check.due("paper(3)", x.paper(3), -1);
        check.due("paper(-1)", x.paper(-1), -1);
        x.set(0, 1, 7);
        check.due("paper(2): the latest", x.paper(2), '+');
        check.due("count(4)", x.count(4), 3);
        for (int wrong : new int[] {70, 71, 72, Integer.MIN_VALUE, Integer.MAX_VALUE}) {
            check.due("paper(wrong)", x.paper(wrong), -1);
        }
    }
}
