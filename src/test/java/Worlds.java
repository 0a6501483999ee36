/** Objects as the tests need them at their start, and numbers at the edges. */
final class Worlds {
    static final int LEAST = Integer.MIN_VALUE;
    static final int MOST = Integer.MAX_VALUE;

    private Worlds() {
    }

    static Routes desks(int n) {
        Routes x = new Routes();
        for (int d = 0; d < n; d++) {
            x.desk();
        }
        return x;
    }

    static Routes line(int desks) {
        Routes x = desks(desks);
        for (int d = 1; d < desks; d++) {
            x.link(d - 1, d);
        }
        return x;
    }

    /** Desk 0 in the middle. */
    static Routes star(int desks) {
        Routes x = desks(desks);
        for (int d = 1; d < desks; d++) {
            x.link(0, d);
        }
        return x;
    }

    static Routes oneReader() {
        Routes x = desks(1);
        x.reader(0);
        return x;
    }

    static int between(Routes x, int reader, int a, int b) {
        return ranged(x, reader, 1, a, b);
    }

    static int ranged(Routes x, int reader, int kind, int a, int b) {
        x.test(0, kind, a, b);
        return x.wish(reader);
    }

    static int numbered(Routes x, int reader, int... numbers) {
        for (int number : numbers) {
            x.among(0, number);
        }
        return x.wish(reader);
    }

    /** A notice whose field 0 is n. */
    static int send(Routes x, int desk, int n) {
        return x.send(desk, n, 0, 0, 0);
    }

    /** Numbers that are none of 0 to size - 1: those next to them, and the least and the greatest. */
    static int[] outside(int size) {
        return new int[] {LEAST, LEAST + 1, -1, size, size + 1, MOST - 1, MOST};
    }
}
