/**
 * "What is answered so changes nothing; what is asked changes nothing but THE
 * PAPER": each refused call and each question is made on one of two objects
 * that are alike, and they must be alike still.
 */
public final class RefusedTest {
    private static final Check check = new Check("RefusedTest");
    private static final long NO = HumpYard.NO;
    private static final Twins CLEARED = new Twins(check, RefusedTest::cleared);
    private static final Twins HUMPED = new Twins(check, RefusedTest::humped);

    public static void main(String[] args) {
        for (Twins twins : new Twins[] {CLEARED, HUMPED}) {
            refusedYard(twins);
            refusedCodes(twins);
            refusedHump(twins);
            refusedWouldBe(twins);
            refusedLists(twins);
            asked(twins);
            askedWouldBe(twins);
            takesTapeAlone(twins);
            takesPaperAlone(twins);
        }
        refusedHumped();
        refusedFull();
        refusedNoneFit();
        refusedNoImage();
        check.end();
    }

    /** Five wagons, an image of two, lists 0 and 1, a paper, and codes on the tape; NEED is 3. */
    private static void cleared(HumpYard x) {
        Check.feed(x, "ba");
        x.yard();
        x.set(0, 0, 3);
        x.hump();
        x.image();
        Check.feed(x, "badc|e");
        x.yard();
        Check.feed(x, "31204");
        x.codes();
        x.set(3, 0, 2);
        x.set(4, 0, 3);
        Check.rooms(x, 9, 8, 7);
        x.brand(2);
        Check.fill(x, 0, 5, -6, 7);
        x.list(1, 0);
        x.spell();
        Check.feed(x, "76543");
    }

    private static void humped(HumpYard x) {
        cleared(x);
        x.hump();
        x.pull(2);
        x.pull(0);
    }

    private static void refusedYard(Twins twins) {
        check.promise(2, "feed");
        check.sentence("What is answered so changes nothing");
        twins.alike("feed(0, ..)", x -> x.feed(0, 'a', 'a', 'a', 'a'), -2);
        twins.alike("feed(5, ..)", x -> x.feed(5, 'a', 'a', 'a', 'a'), -2);
        twins.alike("feed(4, a, 0, ..)", x -> x.feed(4, 'a', 0, 'a', 'a'), -2);
        twins.alike("feed(1, a, .., 128)", x -> x.feed(1, 'a', 'a', 'a', 128), -2);
        check.promise(5, "set");
        twins.alike("set(5, 0, 1)", x -> x.set(5, 0, 1), -1);
        twins.alike("set(0, 2, 1)", x -> x.set(0, 2, 1), -1);
        twins.alike("set(0, 0, 4)", x -> x.set(0, 0, 4), -2);
        twins.alike("set(0, 1, 8)", x -> x.set(0, 1, 8), -2);
        check.promise(6, "room");
        twins.alike("room(3, 1)", x -> x.room(3, 1), -1);
        twins.alike("room(0, 25)", x -> x.room(0, 25), -2);
        check.promise(7, "brand");
        twins.alike("brand(4)", x -> x.brand(4), -1);
        check.promise(8, "wagon");
        twins.alike("wagon(5, 0)", x -> x.wagon(5, 0), -1);
        twins.alike("wagon(0, 8)", x -> x.wagon(0, 8), -1);
        check.promise(9, "wanted");
        twins.alike("wanted(2, 0)", x -> x.wanted(2, 0), -1);
        twins.alike("wanted(0, 4)", x -> x.wanted(0, 4), -1);
        check.promise(10, "track");
        twins.alike("track(3, 0)", x -> x.track(3, 0), -1);
        twins.alike("track(0, 3)", x -> x.track(0, 3), -1);
    }

    private static void refusedCodes(Twins twins) {
        check.promise(11, "chains");
        twins.alike("chains(3)", x -> x.chains(3), -1);
        check.promise(12, "fewest");
        twins.alike("fewest(2)", x -> x.fewest(2), -1);
        check.promise(14, "right");
        twins.alike("right(4)", x -> x.right(4), -1);
        check.promise(15, "bounded");
        twins.alike("bounded(15)", x -> x.bounded(15), -1);
        check.promise(17, "mean");
        twins.alike("mean(2)", x -> x.mean(2), NO);
    }

    private static void refusedHump(Twins twins) {
        check.promise(19, "pull");
        twins.alike("pull(3)", x -> x.pull(3), -1);
        check.promise(21, "out");
        twins.alike("out(2, -1)", x -> x.out(2, -1), -1);
        check.promise(22, "wrong");
        twins.alike("wrong(2)", x -> x.wrong(2), -2);
        check.promise(23, "replay");
        check.sentence("THE TAPE is empty behind each call that reads it, but by NONE, STATE");
        twins.alike("replay(6)", x -> x.replay(6), -1);
        check.promise(25, "paper");
        check.sentence("What is answered so changes nothing");
        twins.alike("paper(71)", x -> x.paper(71), -1);
    }

    private static void refusedWouldBe(Twins twins) {
        check.promise(26, "elsewhere");
        twins.alike("elsewhere(3)", x -> x.elsewhere(3), -2);
        check.promise(27, "drawn");
        twins.alike("drawn(1, 15)", x -> x.drawn(1, 15), -1);
        check.promise(28, "odds");
        twins.alike("odds(1, 21, 1, 0)", x -> x.odds(1, 21, 1, 0), NO);
        twins.alike("odds(1, 1, 9, 0)", x -> x.odds(1, 1, 9, 0), NO);
        twins.alike("odds(1, 1, 1, 2)", x -> x.odds(1, 1, 1, 2), NO);
        check.promise(29, "seen");
        twins.alike("seen(5, 0, 0)", x -> x.seen(5, 0, 0), -1);
        twins.alike("seen(0, 0, 2)", x -> x.seen(0, 0, 2), -11);
        check.promise(30, "judge");
        twins.alike("judge(4)", x -> x.judge(4), -1);
        twins.alike("judge(2)", x -> x.judge(2), -11);
    }

    private static void refusedLists(Twins twins) {
        check.promise(31, "list");
        twins.alike("list(4, 1)", x -> x.list(4, 1), -1);
        twins.alike("list(0, 13)", x -> x.list(0, 13), -2);
        twins.alike("list(0, -1)", x -> x.list(0, -1), -14);
        twins.alike("list(2, -1)", x -> x.list(2, -1), -14);
        check.promise(32, "put");
        twins.alike("put(4, 0, 1)", x -> x.put(4, 0, 1), -1);
        twins.alike("put(2, 0, 1)", x -> x.put(2, 0, 1), -11);
        twins.alike("put(0, 3, 1)", x -> x.put(0, 3, 1), -13);
        twins.alike("put(0, -1, 1)", x -> x.put(0, -1, 1), -13);
        twins.alike("put(1, 0, 1)", x -> x.put(1, 0, 1), -13);
        check.promise(33, "get");
        twins.alike("get(4, 0)", x -> x.get(4, 0), NO);
        twins.alike("get(0, 3)", x -> x.get(0, 3), NO);
        check.promise(34, "lay");
        twins.alike("lay(2, 0, 0, 0)", x -> x.lay(2, 0, 0, 0), -1);
        twins.alike("lay(0, 2, 0, 0)", x -> x.lay(0, 2, 0, 0), -1);
        twins.alike("lay(1, 0, 2, 0)", x -> x.lay(1, 0, 2, 0), -11);
        twins.alike("lay(1, 0, 0, -1)", x -> x.lay(1, 0, 0, -1), -13);
        twins.alike("lay(1, 0, 0, 3)", x -> x.lay(1, 0, 0, 3), -13);
        check.promise(37, "count");
        twins.alike("count(8)", x -> x.count(8), -2);
    }

    private static void refusedHumped() {
        check.promise(4, "codes");
        check.sentence("STATE: it is HUMPED");
        HUMPED.alike("codes() HUMPED", x -> x.codes(), -3);
        check.promise(5, "set");
        HUMPED.alike("set(0, 0, 1) HUMPED", x -> x.set(0, 0, 1), -3);
        HUMPED.alike("set(0, 1, 1) HUMPED", x -> x.set(0, 1, 1), -3);
        check.promise(6, "room");
        HUMPED.alike("room(0, 1) HUMPED", x -> x.room(0, 1), -3);
        check.promise(13, "presort");
        HUMPED.alike("presort() HUMPED", x -> x.presort(), -3);
        check.promise(16, "bind");
        HUMPED.alike("bind() HUMPED", x -> x.bind(), -3);
        check.promise(18, "hump");
        HUMPED.alike("hump() HUMPED", x -> x.hump(), -3);
        check.promise(19, "pull");
        check.sentence("STATE: it isn't HUMPED");
        CLEARED.alike("pull(0) CLEARED", x -> x.pull(0), -3);
    }

    private static void refusedFull() {
        check.promise(2, "feed");
        check.sentence("FULL: they have no room");
        Twins fed = new Twins(check, x -> {
            cleared(x);
            for (int i = 0; i < 8; i++) {
                x.feed(4, 'a', 'a', 'a', 'a');
            }
        });
        fed.alike("feed(4, ..) behind 37", x -> x.feed(4, 'b', 'b', 'b', 'b'), -4);
        check.promise(18, "hump");
        check.sentence("FULL (nothing is done)");
        Twins tight = new Twins(check, x -> {
            cleared(x);
            x.room(2, 2);
        });
        tight.alike("hump(): 3 into ROOM 2", x -> x.hump(), -4);
        check.promise(19, "pull");
        Twins tightLater = new Twins(check, x -> {
            cleared(x);
            x.room(1, 1);
            x.hump();
            x.pull(2);
        });
        tightLater.alike("pull(0): 2 into ROOM 1", x -> x.pull(0), -4);
    }

    private static void refusedNoneFit() {
        check.promise(13, "presort");
        check.sentence("NOT: FEWEST is above 3");
        Twins falling = new Twins(check, x -> {
            cleared(x);
            x.yard();
            Check.feed(x, "edcba");
            x.yard();
            Check.feed(x, "12345");
            x.codes();
            x.brand(1);
            Check.feed(x, "76543");
        });
        falling.alike("presort(): FEWEST is 4", x -> x.presort(), -5);
        falling.alike("wagon(0, 7): FEWEST is 4", x -> x.wagon(0, 7), -5);
        check.sentence("NOT: none FIT");
        check.promise(15, "bounded");
        falling.alike("bounded(0): none FIT", x -> x.bounded(0), -5);
        falling.alike("bounded(10): none FIT", x -> x.bounded(10), -5);
        check.promise(16, "bind");
        falling.alike("bind(): none FIT", x -> x.bind(), -5);
        check.promise(26, "elsewhere");
        check.sentence("NOT: there is none");
        Twins two = new Twins(check, x -> {
            cleared(x);
            x.yard();
            Check.feed(x, "ba|dc");
            x.yard();
        });
        two.alike("elsewhere(0): there is none", x -> x.elsewhere(0), -5);
    }

    private static void refusedNoImage() {
        check.promise(36, "undo");
        check.sentence("STATE: there is none");
        Twins twins = new Twins(check, x -> {
            Check.feed(x, "ba");
            x.yard();
            Check.feed(x, "10");
            x.codes();
            x.hump();
            Check.feed(x, "32");
        });
        twins.alike("undo()", x -> x.undo(), -3);
    }

    private static void asked(Twins twins) {
        boolean humped = twins == HUMPED;
        check.sentence("what is asked changes nothing but THE PAPER");
        check.promise(8, "wagon");
        twins.alike("wagon(0, 5)", x -> x.wagon(0, 5), humped ? 1 : -5);
        twins.alike("wagon(0, 7)", x -> x.wagon(0, 7), 1);
        check.promise(9, "wanted");
        twins.alike("wanted(1, 0)", x -> x.wanted(1, 0), 4);
        check.promise(10, "track");
        twins.alike("track(0, 2)", x -> x.track(0, 2), 2);
        twins.alike("track(1, 10)", x -> x.track(1, 10), humped ? 2 : -1);
        check.promise(11, "chains");
        twins.alike("chains(2)", x -> x.chains(2), 3);
        check.promise(12, "fewest");
        twins.alike("fewest(0)", x -> x.fewest(0), 2);
        check.promise(14, "right");
        twins.alike("right(0)", x -> x.right(0), 0);
        twins.alike("right(1)", x -> x.right(1), 0);
        check.promise(15, "bounded");
        twins.alike("bounded(0)", x -> x.bounded(0), 2);
        twins.alike("bounded(12)", x -> x.bounded(12), 2);
        check.promise(17, "mean");
        twins.alike("mean(0)", x -> x.mean(0), 2);
        check.promise(21, "out");
        twins.alike("out(0, -1)", x -> x.out(0, -1), humped ? 2 : 0);
        twins.alike("out(0, 0)", x -> x.out(0, 0), humped ? 3 : -1);
        check.promise(22, "wrong");
        twins.alike("wrong(0)", x -> x.wrong(0), humped ? 0 : -1);
        check.promise(25, "paper");
        twins.alike("paper(0)", x -> x.paper(0), 'H');
    }

    private static void askedWouldBe(Twins twins) {
        check.promise(26, "elsewhere");
        twins.alike("elsewhere(2)", x -> x.elsewhere(2), 2);
        check.promise(27, "drawn");
        twins.alike("drawn(1, 10)", x -> x.drawn(1, 10), 3);
        check.promise(28, "odds");
        twins.alike("odds(5, 20, 8, 0)", x -> x.odds(5, 20, 8, 0), 1);
        check.promise(29, "seen");
        twins.alike("seen(0, 0, 0)", x -> x.seen(0, 0, 0), 0);
        check.promise(30, "judge");
        twins.alike("judge(0)", x -> x.judge(0), 1);
        twins.alike("judge(1)", x -> x.judge(1), 0);
        check.promise(33, "get");
        twins.alike("get(0, 1)", x -> x.get(0, 1), -6);
        check.promise(37, "count");
        twins.alike("count(3)", x -> x.count(3), 5);
        check.promise(35, "image");
        twins.alikeBut("undo() behind image()", x -> x.image() + x.undo(), 10, x -> x.image());
    }

    private static void takesTapeAlone(Twins twins) {
        check.sentence("THE TAPE is empty behind each call that reads it");
        check.promise(23, "replay");
        for (int what = 0; what < 6; what++) {
            int asked = what;
            twins.alikeBut("replay(" + what + ") of a fault", x -> x.replay(asked), -100, RefusedTest::emptyTape);
        }
        check.promise(3, "yard");
        twins.alikeBut("yard() of a fault", x -> x.yard(), -100, RefusedTest::emptyTape);
        check.promise(4, "codes");
        if (twins == CLEARED) {
            twins.alikeBut("codes() of a fault", x -> x.feed(1, '1', 1, 1, 1) + x.codes(), 6 - 105,
                RefusedTest::emptyTape);
        }
    }

    private static void emptyTape(HumpYard x) {
        x.replay(0);
    }

    private static void takesPaperAlone(Twins twins) {
        check.promise(24, "spell");
        check.sentence("what is asked changes nothing but THE PAPER");
        twins.alike("spell() as the paper is", x -> x.spell(), 27);
        check.promise(23, "replay");
        twins.alikeBut("replay(5) in thought", x -> {
            x.replay(0);
            Check.feed(x, "012012");
            return x.replay(5);
        }, 5, RefusedTest::emptyTape);
    }
}
