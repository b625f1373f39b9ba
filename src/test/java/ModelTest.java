import java.util.Random;

/** Random runs of calls (always the same ones): the class and the model answer alike. */
public final class ModelTest {
    private static final int RUNS = 4000;
    private static final int CALLS = 512;
    private static final int CALL_KINDS = 28;
    private static final String SPOILERS = "th;  0123456789x\u0000\u00ff";
    private static final int[] EDGES = {
        Integer.MIN_VALUE, -1000000001, -2, -1, 0, 1, 2, 3, 5, 6, 7, 8, 9, 10, 12, 13, 20, 30, 31, 60, 61, 99, 100, 101,
        255, 256, 999, 1000, 12345, 123456, 1234567, Integer.MAX_VALUE};

    private final Random random;
    private final int run;
    private final LentDrains drains = new LentDrains();
    private final Model model = new Model();
    private int calls = 0;

    private ModelTest(int run) {
        this.run = run;
        random = new Random(run);
    }

    public static void main(String[] args) {
        int wrong = 0;
        for (int run = 0; run < RUNS && wrong < 5; run++) {
            wrong += new ModelTest(run).play() ? 0 : 1;
        }
        System.out.println(RUNS + " runs of " + CALLS + " calls, " + wrong + " not as due");
        if (wrong != 0) {
            System.exit(1);
        }
    }

    private boolean play() {
        while (calls < CALLS) {
            if (calls == 0 || random.nextInt(150) == 0) {
                if (!tell(someText())) {
                    return false;
                }
            }
            if (!ask(random.nextInt(CALL_KINDS))) {
                return false;
            }
        }
        return true;
    }

    private boolean tell(String text) {
        for (int i = 0; i < text.length(); i++) {
            int letter = text.charAt(i);
            if (!same("feed(" + letter + ")", drains.feed(letter), model.feed(letter))) {
                return false;
            }
        }
        return same("town() of '" + text + "'", drains.town(), model.town())
            && same("fault() of '" + text + "'", drains.fault(), model.fault());
    }

    /** What is answered behind the last call that counts is free. */
    private boolean same(String call, int got, int due) {
        calls++;
        if (calls > CALLS) {
            return true;
        }
        if (got != due) {
            System.out.println("run " + run + ", call " + calls + ": " + call + " answered " + got + ", due is " + due);
        }
        return got == due;
    }

    private String someText() {
        if (random.nextInt(20) == 0) {
            return " ".repeat(random.nextInt(4));
        }
        return random.nextInt(3) == 0 ? spoilt(town()) : town();
    }

    private String town() {
        int houses = random.nextInt(9);
        int scale = random.nextInt(3);
        StringBuilder text = new StringBuilder("t");
        text.append(1 + random.nextInt(scale == 0 ? 60 : 12)).append(' ');
        text.append(1 + random.nextInt(scale == 0 ? 99 : 9)).append(';');
        for (int h = 0; h < houses; h++) {
            int to = h == 0 || random.nextInt(4) == 0 ? 9 : random.nextInt(h);
            text.append('h').append(random.nextInt(scale == 0 ? 1000 : scale == 1 ? 60 : 15)).append(' ');
            text.append(random.nextInt(scale == 0 ? 100 : 8)).append(' ').append(to).append(';');
        }
        return text.toString();
    }

    private String spoilt(String text) {
        StringBuilder out = new StringBuilder(text);
        for (int i = random.nextInt(3); i >= 0; i--) {
            int place = random.nextInt(out.length() + 1);
            if (place < out.length() && random.nextBoolean()) {
                out.deleteCharAt(place);
            } else {
                out.insert(place, SPOILERS.charAt(random.nextInt(SPOILERS.length())));
            }
            if (random.nextInt(6) == 0) {
                out.setLength(random.nextInt(out.length() + 1));
            }
        }
        return out.toString();
    }

    private int edgeOr(int below) {
        return random.nextInt(12) == 0 ? EDGES[random.nextInt(EDGES.length)] : random.nextInt(below);
    }

    private int someHouse() {
        return edgeOr(Math.max(1, model.told(2)));
    }

    private int someOrder() {
        int houses = model.told(2);
        int order = 0;
        int used = 0;
        for (int i = 0; i < houses && i < 6; i++) {
            int h = random.nextInt(houses);
            while ((used & 1 << h) != 0 && random.nextInt(50) != 0) {
                h = (h + 1) % houses;
            }
            used |= 1 << h;
            order = order * 10 + h + 1;
        }
        return random.nextInt(12) == 0 ? edgeOr(1000) : order;
    }

    private boolean ask(int kind) {
        int h = someHouse();
        int n = 1 + edgeOr(random.nextInt(3) == 0 ? 30 : 4);
        switch (kind) {
            case 0: case 1: return askState();
            case 2: return same("day(" + n + ")", drains.day(n), model.day(n));
            case 3: case 4: return askPail();
            case 5: return same("aunt(" + h + ", " + n + ")", drains.aunt(h, n), model.aunt(h, n));
            case 6: case 7: return same("hour(" + n + ")", drains.hour(n), model.hour(n));
            case 8: return same("drift(" + n + ")", drains.drift(n), model.drift(n));
            case 9: case 10: return same("undo(" + n + ")", drains.undo(n), model.undo(n));
            default: return kind < 20 ? askTried(kind, h) : askNotes(kind, h);
        }
    }

    private boolean askState() {
        int what = edgeOr(13);
        int h = someHouse();
        int of = edgeOr(6);
        return same("told(" + what + ")", drains.told(what), model.told(what))
            && same("house(" + h + ", " + of + ")", drains.house(h, of), model.house(h, of));
    }

    private boolean askPail() {
        int a = someHouse();
        int b = someHouse();
        int x = 1 + edgeOr(random.nextInt(3) == 0 ? 200 : 10);
        return same("pail(" + a + ", " + b + ", " + x + ")", drains.pail(a, b, x), model.pail(a, b, x));
    }

    private boolean askTried(int kind, int h) {
        int n = edgeOr(61);
        int what = edgeOr(4);
        int order = someOrder();
        int q = edgeOr(101);
        switch (kind) {
            case 11: return same("level(" + h + ", " + n + ")", drains.level(h, n), model.level(h, n));
            case 12: return same("spills(" + n + ")", drains.spills(n), model.spills(n));
            case 13: return same("fewest()", drains.fewest(), model.fewest());
            case 14: return same("held()", drains.held(), model.held());
            case 15: return same("breath(" + what + ")", drains.breath(what), model.breath(what));
            case 16: case 17: return same("pulled(" + order + ")", drains.pulled(order), model.pulled(order));
            case 18: return same("best(" + what + ")", drains.best(what), model.best(what));
            default: return same("dry(" + n + ", " + q + ")", drains.dry(n, q), model.dry(n, q));
        }
    }

    private boolean askNotes(int kind, int h) {
        boolean came = random.nextBoolean();
        int x = random.nextBoolean() && model.house(h, 3) >= 0 ? model.house(h, 3) : edgeOr(1000);
        int v = edgeOr(Integer.MAX_VALUE);
        int i = edgeOr(2);
        switch (kind) {
            case 20: return same("see(" + h + ", " + came + ")", drains.see(h, came), model.see(h, came));
            case 21: return same("whence()", drains.whence(), model.whence())
                && same("lookAt()", drains.lookAt(), model.lookAt());
            case 22: return same("write(" + h + ", " + x + ")", drains.write(h, x), model.write(h, x));
            case 23: return same("judge()", drains.judge(), model.judge());
            case 24: return random.nextInt(4) != 0 || same("tear()", drains.tear(), model.tear());
            case 25: return same("seed(" + v + ")", drains.seed(v), model.seed(v));
            case 26: return random.nextInt(3) != 0 || same("keep(" + i + ")", drains.keep(i), model.keep(i));
            default: return random.nextInt(3) != 0 || same("goBack(" + i + ")", drains.goBack(i), model.goBack(i));
        }
    }
}
