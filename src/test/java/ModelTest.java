import java.util.Random;

/** Runs of calls, the same ones each time, on WishRoutes and on the plain model: each answer must agree. */
final class ModelTest {
    private static final int RUNS = 1500;
    private static final int CALLS = 512;
    private static final int[] EDGES = {
        Integer.MIN_VALUE, Integer.MIN_VALUE + 1, -1, 0, Integer.MAX_VALUE - 1, Integer.MAX_VALUE};
    /** How often each of the 21 methods is called, one row a kind of run: even, wishful, busy, restless, roundabout. */
    private static final int[][] WEIGHTS = {
        {9, 12, 5, 9, 8, 20, 20, 25, 12, 30, 25, 3, 10, 6, 15, 15, 15, 10, 8, 10, 15},
        {6, 10, 1, 8, 2, 70, 40, 90, 10, 10, 15, 1, 12, 4, 20, 20, 4, 2, 1, 6, 6},
        {8, 12, 1, 8, 3, 10, 10, 15, 4, 90, 20, 1, 2, 2, 6, 6, 15, 12, 12, 2, 15},
        {9, 30, 22, 9, 25, 15, 10, 20, 8, 40, 30, 1, 2, 2, 10, 10, 10, 10, 6, 2, 15},
        {0, 90, 20, 6, 8, 1, 1, 12, 2, 50, 80, 0, 0, 0, 3, 3, 8, 25, 6, 0, 12}};
    /** With so few desks, cuts and links lead a notice back to where it was. */
    private static final int ROUNDABOUT = 4;

    private final Random random;
    private final int[] weights;
    private final boolean roundabout;
    private final int spread;
    private final WishRoutes real = new WishRoutes();
    private final PlainModel model = new PlainModel();
    private String call = "";
    private int got = 0;
    private int want = 0;

    /** The kind is not drawn: the first numbers that Random draws of small seeds are nearly alike. */
    private ModelTest(int run) {
        random = new Random(run);
        int kind = run % WEIGHTS.length;
        weights = WEIGHTS[kind];
        roundabout = kind == ROUNDABOUT;
        spread = 2 + random.nextInt(9);
    }

    public static void main(String[] args) {
        for (int run = 0; run < RUNS; run++) {
            new ModelTest(run).compare(run);
        }
        Check.end();
    }

    private void compare(int run) {
        for (int i = 0; i < CALLS; i++) {
            step(i);
            Check.due("run " + run + ", call " + i + ": " + call, got, want);
            if (got != want) {
                return;
            }
        }
    }

    private void step(int i) {
        if (roundabout ? i < 5 : i < 8 && random.nextInt(4) > 0) {
            answers("desk", real.desk(), model.desk());
            return;
        }
        int left = random.nextInt(sum());
        int method = 0;
        while (left >= weights[method]) {
            left -= weights[method];
            method++;
        }
        if (method < 9) {
            change(method);
        } else if (method < 14) {
            carry(method);
        } else {
            ask(method);
        }
    }

    private int sum() {
        int sum = 0;
        for (int weight : weights) {
            sum += weight;
        }
        return sum;
    }

    private void change(int method) {
        int u = desk();
        int v = desk();
        int r = number(model.count(1));
        int field = number(4);
        switch (method) {
            case 0 -> answers("desk", real.desk(), model.desk());
            case 1 -> answers("link", real.link(u, v), model.link(u, v), u, v);
            case 2 -> {
                Way way = way(false);
                answers("cut", real.cut(way.u(), way.v()), model.cut(way.u(), way.v()), way.u(), way.v());
            }
            case 3 -> answers("reader", real.reader(u), model.reader(u), u);
            case 4 -> answers("move", real.move(r, u), model.move(r, u), r, u);
            case 5 -> setTest(field);
            case 6 -> {
                int n = value();
                answers("among", asInt(real.among(field, n)), asInt(model.among(field, n)), field, n);
            }
            case 7 -> answers("wish", real.wish(r), model.wish(r), r);
            default -> {
                int w = number(model.count(2));
                answers("off", real.off(w), model.off(w), w);
            }
        }
    }

    private void setTest(int field) {
        int kind = random.nextInt(30) == 0 ? random.nextInt(7) - 2 : random.nextInt(3);
        boolean whole = random.nextInt(15) == 0;
        int a = whole ? Integer.MIN_VALUE : value();
        int b = whole ? Integer.MAX_VALUE : random.nextInt(8) == 0 ? value() : Math.max(a, value());
        answers("test", asInt(real.test(field, kind, a, b)), asInt(model.test(field, kind, a, b)), field, kind, a, b);
    }

    private void carry(int method) {
        int u = desk();
        int v = desk();
        int a = value();
        int b = value();
        int c = value();
        int d = value();
        int w = number(model.count(2));
        switch (method) {
            case 9 -> answers("send", real.send(u, a, b, c, d), model.send(u, a, b, c, d), u, a, b, c, d);
            case 10 -> {
                int n = random.nextInt(12) == 0 ? EDGES[random.nextInt(EDGES.length)] : random.nextInt(4);
                Way way = way(true);
                answers("deliver", real.deliver(way.u(), way.v(), n), model.deliver(way.u(), way.v(), n),
                    way.u(), way.v(), n);
            }
            case 11 -> answers("all", real.all(), model.all());
            case 12 -> {
                int o = number(model.count(2));
                answers("covers", real.covers(w, o), model.covers(w, o), w, o);
            }
            default -> answers("fits", real.fits(w, a, b, c, d), model.fits(w, a, b, c, d), w, a, b, c, d);
        }
    }

    private void ask(int method) {
        int u = desk();
        int v = desk();
        int i = number(5);
        int k = number(model.count(3));
        int w = number(model.count(2));
        int r = number(model.count(1));
        switch (method) {
            case 14 -> answers("table", real.table(u, v, i), model.table(u, v, i), u, v, i);
            case 15 -> answers("told", real.told(u, v, i), model.told(u, v, i), u, v, i);
            case 16 -> answers("message", real.message(u, v, i), model.message(u, v, i), u, v, i);
            case 17 -> answers("heard", real.heard(r, i), model.heard(r, i), r, i);
            case 18 -> {
                int what = number(6);
                answers("notice", real.notice(k, what), model.notice(k, what), k, what);
            }
            case 19 -> {
                int what = number(26);
                answers("look", real.look(w, what), model.look(w, what), w, what);
            }
            default -> {
                int what = number(11);
                answers("count", real.count(what), model.count(what), what);
            }
        }
    }

    private void answers(String method, int realAnswer, int modelAnswer, int... args) {
        StringBuilder text = new StringBuilder(method).append('(');
        for (int n = 0; n < args.length; n++) {
            text.append(n == 0 ? "" : ", ").append(args[n]);
        }
        call = text.append(')').toString();
        got = realAnswer;
        want = modelAnswer;
    }

    private int desk() {
        return number(model.count(0));
    }

    private record Way(int u, int v) {
    }

    /** Any two desks; in a roundabout run mostly two that are linked, with a message between them if busy. */
    private Way way(boolean busy) {
        Way way = new Way(desk(), desk());
        for (int tries = 0; roundabout && tries < 12; tries++) {
            if (busy ? model.message(way.u(), way.v(), 0) != -1 : model.deliver(way.u(), way.v(), 0) == 0) {
                return way;
            }
            way = new Way(desk(), desk());
        }
        return way;
    }

    /** Mostly one of those that there are, at times one beyond or at the edge of int. */
    private int number(int size) {
        if (random.nextInt(60) == 0) {
            return EDGES[random.nextInt(EDGES.length)];
        }
        if (size == 0 || random.nextInt(40) == 0) {
            return size;
        }
        return random.nextInt(size);
    }

    private int value() {
        if (random.nextInt(25) == 0) {
            return EDGES[random.nextInt(EDGES.length)];
        }
        return random.nextInt(spread);
    }

    private static int asInt(boolean b) {
        return b ? 1 : 0;
    }
}
