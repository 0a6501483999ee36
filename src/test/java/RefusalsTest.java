import java.util.function.ToIntFunction;

/** Each refused call gives its refusal and leaves all that can be asked, the reading too, as it was. */
final class RefusalsTest {
    private static final int DESKS = 4;
    private static final int READERS = 2;
    private static final int WISHES = 3;

    private RefusalsTest() {
    }

    public static void main(String[] args) {
        refused("link(0, 4)", -2, x -> x.link(0, 4));
        refused("link(-1, 3)", -2, x -> x.link(-1, 3));
        refused("link(0, 2)", -4, x -> x.link(0, 2));
        refused("link(3, 3)", -4, x -> x.link(3, 3));
        refused("cut(0, 4)", -2, x -> x.cut(0, 4));
        refused("cut(0, 2)", -5, x -> x.cut(0, 2));
        refused("reader(4)", -2, x -> x.reader(4));
        refused("move(2, 0)", -2, x -> x.move(2, 0));
        refused("move(0, 4)", -2, x -> x.move(0, 4));
        refused("move(0, 2)", -4, x -> x.move(0, 2));
        refused("test(4, 1, 1, 1)", 0, x -> x.test(4, 1, 1, 1) ? 1 : 0);
        refused("test(0, 3, 1, 1)", 0, x -> x.test(0, 3, 1, 1) ? 1 : 0);
        refused("test(0, 2, 2, 1)", 0, x -> x.test(0, 2, 2, 1) ? 1 : 0);
        refused("among(-1, 1)", 0, x -> x.among(-1, 1) ? 1 : 0);
        refused("among(1, 4)", 0, x -> x.among(1, 4) ? 1 : 0);
        refused("among(2, 5)", 0, x -> x.among(2, 5) ? 1 : 0);
        refused("wish(2)", -2, x -> x.wish(2));
        refused("off(3)", -2, x -> x.off(3));
        refused("off(1)", -4, x -> x.off(1));
        refused("send(4)", -2, x -> x.send(4, 7, 0, 0, 0));
        refused("deliver(0, 4, 1)", -2, x -> x.deliver(0, 4, 1));
        refused("deliver(0, 1, -1)", -2, x -> x.deliver(0, 1, -1));
        refused("deliver(0, 2, 1)", -5, x -> x.deliver(0, 2, 1));
        Check.end();
    }

    private static void refused(String call, int due, ToIntFunction<WishRoutes> made) {
        WishRoutes x = world();
        Check.due(call, made.applyAsInt(x), due);
        Check.due("the state after " + call, state(x), state(world()));
    }

    /** Three desks in a line and one alone, messages of both kinds, one wish OFF, a reading half done. */
    private static WishRoutes world() {
        WishRoutes x = new WishRoutes();
        for (int d = 0; d < DESKS; d++) {
            x.desk();
        }
        x.link(0, 1);
        x.link(1, 2);
        x.reader(2);
        x.reader(0);
        x.wish(0);
        x.all();
        x.test(0, 1, 4, 6);
        x.wish(1);
        x.off(1);
        x.test(0, 1, 6, 9);
        x.wish(1);
        x.send(0, 7, 0, 0, 0);
        x.test(0, 1, 1, 8);
        x.among(1, 4);
        for (int v = 1; v <= 4; v++) {
            x.among(2, v);
        }
        return x;
    }

    private static String state(WishRoutes x) {
        StringBuilder text = new StringBuilder();
        for (int what = 0; what <= 10; what++) {
            text.append(x.count(what)).append(' ');
        }
        for (int u = 0; u < 3; u++) {
            for (int v = 0; v < 3; v++) {
                text.append("| ").append(Rows.table(x, u, v)).append('/').append(Rows.told(x, u, v));
                text.append('/').append(Rows.messages(x, u, v));
            }
        }
        for (int r = 0; r < READERS; r++) {
            text.append("| heard ").append(Rows.heard(x, r));
        }
        for (int w = 0; w < WISHES; w++) {
            text.append("| wish ").append(x.look(w, 0)).append(' ').append(x.look(w, 1));
        }
        text.append("| notice ").append(x.notice(0, 4)).append(' ').append(x.notice(0, 5));
        text.append("| reading of ").append(x.wish(0));
        for (int what = 2; what < 26; what++) {
            text.append(' ').append(x.look(WISHES, what));
        }
        text.append("| delivered ").append(x.all()).append(' ').append(Rows.heard(x, 0));
        return text.toString();
    }
}
