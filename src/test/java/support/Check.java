/** Counts answers that are not as due, and makes yards from texts. */
final class Check {
    private final String title;
    private String part = "";
    private String words = "";
    private int checks = 0;
    private int failures = 0;

    Check(String title) {
        this.title = title;
    }

    /** What follows tests this promise. */
    void promise(int number, String name) {
        part = "promise " + number + " (" + name + ")";
    }

    /** What follows tests these words of the document. */
    void sentence(String quoted) {
        words = ", \"" + quoted + "\"";
    }

    void due(String call, long got, long want) {
        checks++;
        if (got != want) {
            failures++;
            System.out.println(title + ", " + part + words + ": " + call + " answered " + got + ", due is " + want);
        }
    }

    void fail(String text) {
        checks++;
        failures++;
        System.out.println(title + ", " + part + words + ": " + text);
    }

    void due(String call, String got, String want) {
        if (got.equals(want)) {
            passed();
        } else {
            fail(call + " answered " + got + ", due is " + want);
        }
    }

    void passed() {
        checks++;
    }

    void end() {
        System.out.println(title + ": " + checks + " checks, " + failures + " failures");
        if (failures != 0 || checks == 0) {
            System.exit(1);
        }
    }

    /** Numbers just outside low .. high, far outside, and such as would be inside if bits were lost. */
    static int[] outside(int low, int high) {
        return new int[] {Integer.MIN_VALUE, Integer.MIN_VALUE + low, low - 256, low - 1, high + 1, low + 256,
            low + 65536, Integer.MAX_VALUE};
    }

    static void feed(HumpYard x, String text) {
        for (int i = 0; i < text.length(); i++) {
            x.feed(1, text.charAt(i), 1, 1, 1);
        }
    }

    static HumpYard yard(String text) {
        HumpYard x = new HumpYard();
        feed(x, text);
        x.yard();
        return x;
    }

    static HumpYard yard(String text, String codes) {
        HumpYard x = yard(text);
        feed(x, codes);
        x.codes();
        return x;
    }

    static int told(HumpYard x, String pulls, int what) {
        feed(x, pulls);
        return x.replay(what);
    }

    static void rooms(HumpYard x, int first, int second, int third) {
        x.room(0, first);
        x.room(1, second);
        x.room(2, third);
    }

    static void fill(HumpYard x, int list, int... values) {
        x.list(list, values.length);
        for (int i = 0; i < values.length; i++) {
            x.put(list, i, values[i]);
        }
    }

    /** The paper as a text. */
    static String paper(HumpYard x) {
        StringBuilder text = new StringBuilder();
        for (int i = 0; x.paper(i) != HumpYard.NONE; i++) {
            text.append((char) x.paper(i));
        }
        return text.toString();
    }

    /** The codes of all wagons as figures. */
    static long codes(HumpYard x) {
        long figures = 0;
        for (int w = 0; w < x.count(0); w++) {
            figures = figures * 10 + x.wagon(w, 1);
        }
        return figures;
    }
}
