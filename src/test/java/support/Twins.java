/**
 * Two objects made by the same calls: one of them gets a call more, and both
 * must look alike then, to the last thing that can be asked.
 */
final class Twins {
    interface Calls {
        void on(HumpYard x);
    }

    interface Call {
        long on(HumpYard x);
    }

    private final Check check;
    private final Calls setUp;

    Twins(Check check, Calls setUp) {
        this.check = check;
        this.setUp = setUp;
    }

    /** The call answers what is due, and changes nothing. */
    void alike(String text, Call call, long due) {
        alikeBut(text, call, due, x -> { });
    }

    /** The call answers what is due, and changes only what the other calls change too. */
    void alikeBut(String text, Call call, long due, Calls others) {
        HumpYard called = new HumpYard();
        HumpYard other = new HumpYard();
        setUp.on(called);
        setUp.on(other);
        check.due(text, call.on(called), due);
        others.on(other);
        check.due("all behind " + text, look(called), look(other));
    }

    /** All that an object tells; its tape and its image are told by calls that end them. */
    private static String look(HumpYard x) {
        StringBuilder text = new StringBuilder();
        lookAtYard(x, text);
        text.append(" paper ").append(Check.paper(x));
        for (int list = 0; list < 4; list++) {
            text.append(" list");
            for (int i = 0; i < 12 && x.get(list, i) != HumpYard.NO; i++) {
                text.append(' ').append(x.get(list, i));
            }
        }
        text.append(" cleared ").append(x.clear());
        text.append(" told ").append(x.codes()).append(' ').append(Check.codes(x));
        text.append(" undone ").append(x.undo());
        lookAtYard(x, text);
        return text.toString();
    }

    private static void lookAtYard(HumpYard x, StringBuilder text) {
        for (int what = 0; what < 8; what++) {
            text.append(' ').append(x.count(what));
        }
        for (int w = 0; w < x.count(0); w++) {
            text.append(" wagon");
            for (int what = 0; what < 6; what++) {
                text.append(' ').append(x.wagon(w, what));
            }
        }
        for (int train = 0; train < 2; train++) {
            text.append(" out");
            for (int place = 0; place < x.out(train, -1); place++) {
                text.append(' ').append(x.out(train, place));
            }
        }
        for (int track = 0; track < 3; track++) {
            text.append(" track ").append(x.track(track, 0));
            for (int i = 10; x.track(track, i) != HumpYard.NONE; i++) {
                text.append(' ').append(x.track(track, i));
            }
        }
    }
}
