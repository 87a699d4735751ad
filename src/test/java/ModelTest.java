import java.lang.reflect.Method;
import java.util.ArrayList;
import java.util.Arrays;
import java.util.Comparator;
import java.util.List;
import java.util.Random;

/** Runs of drawn calls on HumpYard and on Model: each answer must be the same. */
public final class ModelTest {
    private static final int RUNS = 600;
    /** An object is used for so many calls; the look at all that can be asked takes up to 300 of them. */
    private static final int CALLS = 512;
    private static final int DRAWN_AHEAD_OF_LOOK = 200;
    private static final int[] ODD = {Integer.MIN_VALUE, Integer.MIN_VALUE + 9, -1000, -15, -3, -2, -1, 0, 1, 2, 3, 4,
        5, 6, 7, 8, 9, 10, 11, 12, 13, 14, 15, 16, 17, 18, 19, 20, 21, 22, 24, 25, 40, 127, 128, 1000,
        Integer.MAX_VALUE - 1, Integer.MAX_VALUE};

    private final Check check;
    private final Random random;
    private final List<Method> yardCalls = new ArrayList<>();
    private final List<Method> modelCalls = new ArrayList<>();
    private HumpYard yard;
    private Model model;
    private final List<String> told = new ArrayList<>();
    private boolean same;

    private ModelTest(Check check, long seed) throws Exception {
        this.check = check;
        this.random = new Random(seed);
        Method[] all = HumpYard.class.getDeclaredMethods();
        Arrays.sort(all, Comparator.comparing(Method::getName));
        for (Method m : all) {
            if (java.lang.reflect.Modifier.isPublic(m.getModifiers())) {
                yardCalls.add(m);
                modelCalls.add(Model.class.getMethod(m.getName(), m.getParameterTypes()));
            }
        }
    }

    public static void main(String[] args) throws Exception {
        Check check = new Check("ModelTest");
        ModelTest test = new ModelTest(check, args.length > 0 ? Long.parseLong(args[0]) : 20261118L);
        for (int run = 0; run < RUNS; run++) {
            test.oneRun();
        }
        check.end();
    }

    private void oneRun() throws Exception {
        yard = new HumpYard();
        model = new Model();
        told.clear();
        same = true;
        int drawn = random.nextBoolean() ? CALLS : DRAWN_AHEAD_OF_LOOK;
        while (same && told.size() < drawn) {
            int kind = random.nextInt(60);
            if (kind == 0) {
                tell(yardText());
                call("yard");
            } else if (kind == 1) {
                tell(figures(8, model.count(0) + (random.nextInt(6) == 0 ? random.nextInt(3) - 1 : 0)));
                call("codes");
            } else if (kind <= 4) {
                tell(figures(3, random.nextInt(10) == 0 ? random.nextInt(23) : random.nextInt(6)));
                call("replay", random.nextInt(6));
            } else if (kind == 5) {
                call("bind");
                call("hump");
            } else if (kind == 6) {
                tellList();
            } else {
                drawnCall();
            }
        }
        sweep();
    }

    private void tell(String text) throws Exception {
        for (int i = 0; i < text.length(); i++) {
            call("feed", 1, text.charAt(i), 1, 1, 1);
        }
    }

    private String yardText() {
        int n = random.nextInt(9);
        List<Character> row = new ArrayList<>();
        for (int i = 0; i < n; i++) {
            row.add((char) ('a' + i));
        }
        java.util.Collections.shuffle(row, random);
        if (random.nextInt(3) == 0) {
            java.util.Collections.sort(row);
        }
        if (random.nextInt(4) != 0) {
            row.add(random.nextInt(row.size() + 1), '|');
        }
        if (random.nextInt(5) == 0) {
            row.add(random.nextInt(row.size() + 1), "abcdefghi|0~".charAt(random.nextInt(12)));
        }
        StringBuilder text = new StringBuilder();
        row.forEach(text::append);
        return text.toString();
    }

    private String figures(int bound, int many) {
        StringBuilder text = new StringBuilder();
        for (int i = 0; i < many; i++) {
            text.append((char) ('0' + random.nextInt(random.nextInt(30) == 0 ? bound + 2 : bound)));
        }
        return text.toString();
    }

    /** Lists that tell what is likely: codes that fit, or what is out. */
    private void tellList() throws Exception {
        int list = random.nextInt(4);
        int train = random.nextInt(2);
        call("list", list, random.nextBoolean() ? model.count(0) : Math.max(0, model.wanted(train, -1)));
        if (random.nextBoolean()) {
            call("lay", random.nextInt(2), train, list, 0);
        } else {
            for (int i = 0; i < model.wanted(train, -1); i++) {
                call("put", list, i, model.wanted(train, i));
            }
        }
        call("judge", list);
        for (int w = 0; w < model.count(0); w++) {
            call("seen", w, train, list);
        }
    }

    private void drawnCall() throws Exception {
        int which = random.nextInt(yardCalls.size());
        String name = yardCalls.get(which).getName();
        boolean rarely = name.equals("yard") || name.equals("undo") || name.equals("feed") || name.equals("list");
        if (rarely && random.nextInt(4) != 0) {
            return;
        }
        Object[] values = new Object[yardCalls.get(which).getParameterCount()];
        for (int i = 0; i < values.length; i++) {
            values[i] = likely(name, i);
        }
        call(name, values);
    }

    private int likely(String name, int i) {
        if (random.nextInt(25) == 0) {
            return ODD[random.nextInt(ODD.length)];
        }
        boolean asksOfWagons = name.equals("bounded") || name.equals("fewest") || name.equals("drawn") && i == 1
            || name.equals("track") && i == 1;
        if (asksOfWagons) {
            return random.nextBoolean() ? random.nextInt(3) : 10 + random.nextInt(8);
        }
        if (name.equals("feed")) {
            return i == 0 ? 1 + random.nextInt(4) : "abcdefgh|01234567".charAt(random.nextInt(17));
        }
        if ((name.equals("drawn") || name.equals("odds")) && i == 0) {
            return random.nextInt();
        }
        if (name.equals("odds") && i == 1) {
            return 1 + random.nextInt(20);
        }
        if (name.equals("odds") && i == 3) {
            return random.nextInt(2);
        }
        if (name.equals("room") && i == 1) {
            return random.nextInt(random.nextBoolean() ? 25 : 6);
        }
        if (name.equals("paper")) {
            return random.nextInt(72);
        }
        if (name.equals("list") && i == 1 || name.equals("put") || name.equals("get")) {
            return random.nextInt(13);
        }
        return random.nextInt(random.nextBoolean() ? 3 : 9);
    }

    private void call(String name, Object... values) throws Exception {
        if (!same || told.size() >= CALLS) {
            return;
        }
        int which = 0;
        while (!yardCalls.get(which).getName().equals(name)) {
            which++;
        }
        for (int i = 0; i < values.length; i++) {
            if (values[i] instanceof Character c) {
                values[i] = (int) c;
            }
        }
        long got = ((Number) yardCalls.get(which).invoke(yard, values)).longValue();
        long want = ((Number) modelCalls.get(which).invoke(model, values)).longValue();
        String text = name + Arrays.toString(values);
        told.add(text + " = " + want);
        if (got == want) {
            check.passed();
        } else {
            same = false;
            check.fail(text + " answered " + got + ", due is " + want + ", behind " + told);
        }
    }

    /** All that can be asked cheaply, so that no state differs unseen. */
    private void sweep() throws Exception {
        for (int what = 0; what < 8; what++) {
            call("count", what);
            for (int w = 0; w < model.count(0); w++) {
                call("wagon", w, what);
            }
        }
        for (int train = 0; train < 2; train++) {
            for (int place = -1; place < 9; place++) {
                call("wanted", train, place);
                call("out", train, place);
            }
        }
        for (int track = 0; track < 3; track++) {
            call("track", track, 0);
            for (int i = 10; i < 19; i++) {
                call("track", track, i);
            }
        }
        for (int list = 0; list < 4; list++) {
            for (int i = 0; i < 13; i++) {
                call("get", list, i);
            }
        }
        for (int i = 0; i < 72; i++) {
            call("paper", i);
        }
        call("undo");
        call("spell");
    }
}
