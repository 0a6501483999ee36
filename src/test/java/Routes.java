/** A WishRoutes object that minds the 512 calls beyond which every answer is free. */
final class Routes {
    static final int CALLS = 512;

    private final WishRoutes real = new WishRoutes();
    private int calls = 0;

    int left() {
        return CALLS - calls;
    }

    int desk() {
        return counted().desk();
    }

    int link(int u, int v) {
        return counted().link(u, v);
    }

    int cut(int u, int v) {
        return counted().cut(u, v);
    }

    int reader(int desk) {
        return counted().reader(desk);
    }

    int move(int reader, int desk) {
        return counted().move(reader, desk);
    }

    boolean test(int field, int kind, int a, int b) {
        return counted().test(field, kind, a, b);
    }

    boolean among(int field, int v) {
        return counted().among(field, v);
    }

    int wish(int reader) {
        return counted().wish(reader);
    }

    int off(int wish) {
        return counted().off(wish);
    }

    int send(int desk, int f0, int f1, int f2, int f3) {
        return counted().send(desk, f0, f1, f2, f3);
    }

    int deliver(int u, int v, int n) {
        return counted().deliver(u, v, n);
    }

    int all() {
        return counted().all();
    }

    int covers(int a, int b) {
        return counted().covers(a, b);
    }

    int fits(int wish, int f0, int f1, int f2, int f3) {
        return counted().fits(wish, f0, f1, f2, f3);
    }

    int table(int u, int v, int i) {
        return counted().table(u, v, i);
    }

    int told(int u, int v, int i) {
        return counted().told(u, v, i);
    }

    int message(int u, int v, int i) {
        return counted().message(u, v, i);
    }

    int heard(int reader, int i) {
        return counted().heard(reader, i);
    }

    int notice(int k, int what) {
        return counted().notice(k, what);
    }

    int look(int wish, int what) {
        return counted().look(wish, what);
    }

    int count(int what) {
        return counted().count(what);
    }

    private WishRoutes counted() {
        calls++;
        if (calls == CALLS + 1) {
            Check.fail("the test makes more than " + CALLS + " calls of one object");
        }
        return real;
    }
}
