import java.util.function.Supplier;
import java.util.function.ToIntFunction;

/**
 * "Each call that is refused gives the first of the refusals told of it, and changes nothing": each refusal of
 * each call with its number, the first where several hold, and the whole state compared before and after.
 */
final class RefusalsTest {
    private static final int LEAST = Worlds.LEAST;
    private static final int MOST = Worlds.MOST;

    private final Supplier<Routes> world;
    private final String before;

    private RefusalsTest(Supplier<Routes> world) {
        this.world = world;
        before = State.of(world);
    }

    public static void main(String[] args) {
        RefusalsTest busy = new RefusalsTest(RefusalsTest::busyWorld);
        noSuchDesk(busy);
        noSuchReader(busy);
        noSuchWish(busy);
        deliverBelowNone(busy);
        thereIsAWay(busy);
        notLinked(busy);
        itIsThereOrOff(busy);
        testIsFalse(busy);
        amongIsFalse(busy);
        inANewObject();
        fullOfDesksAndReaders();
        fullOfWishes();
        fullOfNotices();
        questionsChangeNothing();
        Check.end();
    }

    private void refused(String call, int due, ToIntFunction<Routes> made) {
        Check.due(call, made.applyAsInt(world.get()), due);
        String after = State.of(() -> {
            Routes x = world.get();
            made.applyAsInt(x);
            return x;
        });
        Check.due("what changed with " + call, State.difference(before, after), "");
    }

    private static void noSuchDesk(RefusalsTest in) {
        Check.sentence("Promises 3 to 6, 11, 12", "-2: there is no such DESK");
        for (int d : Worlds.outside(4)) {
            in.refused("link(" + d + ", 3)", -2, x -> x.link(d, 3));
            in.refused("link(3, " + d + ")", -2, x -> x.link(3, d));
            in.refused("link(" + d + ", itself), no desk and one", -2, x -> x.link(d, d));
            in.refused("cut(" + d + ", 1)", -2, x -> x.cut(d, 1));
            in.refused("cut(1, " + d + ")", -2, x -> x.cut(1, d));
            in.refused("cut(" + d + ", itself)", -2, x -> x.cut(d, d));
            in.refused("reader(" + d + ")", -2, x -> x.reader(d));
            in.refused("move(0, " + d + ")", -2, x -> x.move(0, d));
            in.refused("send(" + d + ")", -2, x -> x.send(d, 7, 0, 0, 0));
            in.refused("deliver(" + d + ", 1, 1)", -2, x -> x.deliver(d, 1, 1));
            in.refused("deliver(1, " + d + ", 1)", -2, x -> x.deliver(1, d, 1));
            in.refused("deliver(" + d + ", itself, 0)", -2, x -> x.deliver(d, d, 0));
        }
    }

    private static void noSuchReader(RefusalsTest in) {
        Check.sentence("Promises 6, 9", "-2: there is no such READER");
        for (int r : Worlds.outside(2)) {
            in.refused("move(" + r + ", 1)", -2, x -> x.move(r, 1));
            in.refused("move(" + r + ", no desk)", -2, x -> x.move(r, 4));
            in.refused("wish(" + r + ")", -2, x -> x.wish(r));
        }
    }

    private static void noSuchWish(RefusalsTest in) {
        Check.sentence("Promise 10", "-2: there is no such WISH");
        for (int w : Worlds.outside(3)) {
            in.refused("off(" + w + ")", -2, x -> x.off(w));
        }
    }

    private static void deliverBelowNone(RefusalsTest in) {
        Check.sentence("Promise 12", "-2: .. or n is below 0");
        for (int n : new int[] {-1, -2, LEAST}) {
            in.refused("deliver(0, 1, " + n + ")", -2, x -> x.deliver(0, 1, n));
            in.refused("deliver(0, 2, " + n + "), not linked, too", -2, x -> x.deliver(0, 2, n));
            in.refused("deliver(1, 1, " + n + "), one, too", -2, x -> x.deliver(1, 1, n));
            in.refused("deliver(0, 4, " + n + "), no desk, too", -2, x -> x.deliver(0, 4, n));
        }
    }

    private static void thereIsAWay(RefusalsTest in) {
        Check.sentence("Promise 3", "-4: there is a way between them (or they are one)");
        int[][] pairs = {{0, 1}, {1, 0}, {1, 2}, {2, 1}, {0, 2}, {2, 0}, {0, 0}, {1, 1}, {2, 2}, {3, 3}};
        for (int[] p : pairs) {
            in.refused("link(" + p[0] + ", " + p[1] + ")", -4, x -> x.link(p[0], p[1]));
        }
    }

    private static void notLinked(RefusalsTest in) {
        Check.sentence("Promises 4, 12", "-5: they are not LINKED");
        int[][] pairs = {{0, 2}, {2, 0}, {0, 3}, {3, 0}, {2, 3}, {0, 0}, {1, 1}, {3, 3}};
        for (int[] p : pairs) {
            String args = "(" + p[0] + ", " + p[1] + ")";
            in.refused("cut" + args, -5, x -> x.cut(p[0], p[1]));
            for (int n : new int[] {0, 1, MOST}) {
                in.refused("deliver of " + n + " " + args, -5, x -> x.deliver(p[0], p[1], n));
            }
        }
    }

    private static void itIsThereOrOff(RefusalsTest in) {
        Check.sentence("Promise 6", "-4: it is there");
        in.refused("move(0, 2)", -4, x -> x.move(0, 2));
        in.refused("move(1, 0)", -4, x -> x.move(1, 0));
        Check.sentence("Promise 10", "-4: it is OFF");
        in.refused("off(1)", -4, x -> x.off(1));
    }

    private static void testIsFalse(RefusalsTest in) {
        Check.sentence("Promise 7", "false, if there is no such FIELD, kind is not 0 to 2, or (1, 2) a is above b");
        for (int field : Worlds.outside(4)) {
            for (int kind = 0; kind <= 2; kind++) {
                int k = kind;
                in.refused("test(" + field + ", " + k + ", 1, 1)", 0, x -> x.test(field, k, 1, 1) ? 1 : 0);
            }
        }
        for (int kind : Worlds.outside(3)) {
            in.refused("test(0, " + kind + ", 1, 1)", 0, x -> x.test(0, kind, 1, 1) ? 1 : 0);
            in.refused("test(2, " + kind + ", 1, 1)", 0, x -> x.test(2, kind, 1, 1) ? 1 : 0);
        }
        int[][] turned = {{1, 0}, {MOST, LEAST}, {MOST, MOST - 1}, {LEAST + 1, LEAST}, {0, -1}, {0, LEAST}, {MOST, -1}};
        for (int[] t : turned) {
            for (int field = 0; field < 4; field++) {
                int f = field;
                String args = "(" + f + ", kind, " + t[0] + ", " + t[1] + ")";
                in.refused("test BETWEEN " + args, 0, x -> x.test(f, 1, t[0], t[1]) ? 1 : 0);
                in.refused("test NOT " + args, 0, x -> x.test(f, 2, t[0], t[1]) ? 1 : 0);
            }
        }
    }

    private static void amongIsFalse(RefusalsTest in) {
        Check.sentence("Promise 8", "false, if there is no such FIELD, it has v, or has 4");
        for (int field : Worlds.outside(4)) {
            in.refused("among(" + field + ", 1)", 0, x -> x.among(field, 1) ? 1 : 0);
        }
        in.refused("among(1, 4), the one that it has", 0, x -> x.among(1, 4) ? 1 : 0);
        for (int v : new int[] {LEAST, 0, 1, 2, 3, 4, 5, MOST}) {
            in.refused("among(2, " + v + "), having 4", 0, x -> x.among(2, v) ? 1 : 0);
        }
    }

    private static void inANewObject() {
        RefusalsTest in = new RefusalsTest(Routes::new);
        Check.sentence("Promise 1", "No DESKS, READERS, WISHES, NOTICES");
        for (int n : new int[] {LEAST, -1, 0, 1, MOST}) {
            in.refused("new: link(" + n + ", " + n + ")", -2, x -> x.link(n, n));
            in.refused("new: cut(" + n + ", " + n + ")", -2, x -> x.cut(n, n));
            in.refused("new: reader(" + n + ")", -2, x -> x.reader(n));
            in.refused("new: move(" + n + ", 0)", -2, x -> x.move(n, 0));
            in.refused("new: wish(" + n + ")", -2, x -> x.wish(n));
            in.refused("new: off(" + n + ")", -2, x -> x.off(n));
            in.refused("new: send(" + n + ")", -2, x -> x.send(n, 0, 0, 0, 0));
            in.refused("new: deliver(" + n + ", " + n + ", 0)", -2, x -> x.deliver(n, n, 0));
        }
        in.refused("new: all(), of none", 0, Routes::all);
    }

    private static void fullOfDesksAndReaders() {
        RefusalsTest in = new RefusalsTest(RefusalsTest::crowdedWorld);
        Check.sentence("Promise 2", "-8: there are 12");
        in.refused("desk()", -8, Routes::desk);
        in.refused("desk() twice", -8, x -> x.desk() == -8 ? x.desk() : 0);
        Check.sentence("Promise 5", "-2: there is no such DESK; -8: there are 24");
        for (int d = 0; d < 12; d++) {
            int desk = d;
            in.refused("reader(" + d + ")", -8, x -> x.reader(desk));
        }
        for (int d : Worlds.outside(12)) {
            in.refused("reader(" + d + "), with 24, too", -2, x -> x.reader(d));
        }
    }

    private static void fullOfWishes() {
        RefusalsTest in = new RefusalsTest(RefusalsTest::wishfulWorld);
        Check.sentence("Promise 9", "-2: there is no such READER; -8: there are 300");
        in.refused("wish(0)", -8, x -> x.wish(0));
        in.refused("wish(1)", -8, x -> x.wish(1));
        in.refused("wish(2), with 300, too", -2, x -> x.wish(2));
        in.refused("wish(-1), with 300, too", -2, x -> x.wish(-1));
        Check.sentence("Promise 10", "-2: there is no such WISH; -4: it is OFF");
        in.refused("off(300)", -2, x -> x.off(300));
        in.refused("off(299)", -4, x -> x.off(299));
    }

    private static void fullOfNotices() {
        RefusalsTest in = new RefusalsTest(RefusalsTest::loudWorld);
        Check.sentence("Promise 11", "-2: there is no such DESK; -8: 60 are UNDER WAY");
        in.refused("send(0)", -8, x -> x.send(0, 1, 1, 1, 1));
        in.refused("send(1)", -8, x -> x.send(1, 1, 1, 1, 1));
        in.refused("send(2), of what nobody hears", -8, x -> x.send(2, 1, 1, 1, 1));
        for (int d : Worlds.outside(3)) {
            in.refused("send(" + d + "), with 60, too", -2, x -> x.send(d, 1, 1, 1, 1));
        }
    }

    private static void questionsChangeNothing() {
        RefusalsTest in = new RefusalsTest(RefusalsTest::busyWorld);
        Check.sentence("Promises 14 to 22", "NONE if there is none such");
        for (int n : new int[] {LEAST, -1, 0, 99, MOST}) {
            in.refused("questions of " + n, 0, x -> {
                x.covers(n, 0);
                x.fits(n, n, n, n, n);
                x.table(1, 2, n);
                x.told(n, 1, 0);
                x.message(0, 1, n);
                x.heard(0, n);
                x.notice(n, 5);
                x.look(0, n);
                x.count(n);
                return 0;
            });
        }
        Check.sentence("Promise 12", "The next n MESSAGES from u to v are delivered .. how many were");
        in.refused("deliver(0, 1, 0)", 0, x -> x.deliver(0, 1, 0));
        in.refused("deliver(1, 2, most), of none", 0, x -> x.deliver(1, 2, MOST));
    }

    /** Three desks in a line and one alone, messages of both kinds, one wish OFF, a reading half done. */
    private static Routes busyWorld() {
        Routes x = Worlds.line(3);
        x.desk();
        x.reader(2);
        x.reader(0);
        x.wish(0);
        x.all();
        Worlds.between(x, 1, 4, 6);
        x.off(1);
        Worlds.between(x, 1, 6, 9);
        x.send(0, 7, 0, 0, 0);
        x.test(0, 1, 1, 8);
        x.among(1, 4);
        for (int v = 1; v <= 4; v++) {
            x.among(2, v);
        }
        return x;
    }

    /** As many desks, links and readers as there may be, a wish told to some, a notice on its way. */
    private static Routes crowdedWorld() {
        Routes x = Worlds.star(12);
        for (int r = 0; r < 24; r++) {
            x.reader(r % 12);
        }
        Worlds.between(x, 23, 3, 5);
        x.deliver(11, 0, 1);
        x.send(0, 4, 0, 0, 0);
        x.test(3, 2, 1, 1);
        return x;
    }

    /** As many wishes as there may be, the last one OFF, and a reading that would be lost with a wish. */
    private static Routes wishfulWorld() {
        Routes x = Worlds.line(2);
        x.reader(0);
        x.reader(1);
        x.test(0, 1, 1, 2);
        for (int w = 0; w < 300; w++) {
            x.wish(w % 2);
        }
        x.off(299);
        x.among(0, 1);
        x.among(0, 2);
        x.among(3, 5);
        return x;
    }

    /** As many notices under way as there may be, and a desk alone. */
    private static Routes loudWorld() {
        Routes x = Worlds.line(2);
        x.desk();
        x.reader(1);
        x.wish(0);
        x.all();
        for (int k = 0; k < 60; k++) {
            Worlds.send(x, 0, k);
        }
        return x;
    }
}
