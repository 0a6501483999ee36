import java.util.function.ToIntFunction;

/** "An object is used for at most 512 calls after it has been made": the 512th is answered as is due. */
final class CallsTest {
    private CallsTest() {
    }

    public static void main(String[] args) {
        Check.sentence("What it is", "An object is used for at most 512 calls after it has been made");
        changesAsTheLastCall();
        carriageAsTheLastCall();
        questionsAsTheLastCall();
        refusalsAsTheLastCall();
        lastCallAfterAsManySends();
        lastCallAfterAsManyTells();
        lastCallAfterAsManyLinks();
        laterCallsEnd();
        Check.end();
    }

    /** Three desks in a line and one alone, two readers, two wishes, a notice and a tell on their way. */
    private static Routes world() {
        Routes x = Worlds.line(3);
        x.desk();
        x.reader(2);
        x.reader(0);
        Worlds.between(x, 0, 1, 9);
        x.all();
        Worlds.send(x, 0, 5);
        Worlds.between(x, 1, 2, 3);
        return x;
    }

    private static void last(String call, int due, ToIntFunction<Routes> made) {
        Routes x = world();
        for (int i = 0; x.left() > 1; i++) {
            x.count(i % 11);
        }
        Check.due(call + " as the 512th call", made.applyAsInt(x), due);
        Check.due("calls left", x.left(), 0);
    }

    private static void changesAsTheLastCall() {
        last("desk()", 4, Routes::desk);
        last("link(3, 1)", 0, x -> x.link(3, 1));
        last("cut(1, 2)", 0, x -> x.cut(1, 2));
        last("reader(3)", 2, x -> x.reader(3));
        last("move(0, 3)", 0, x -> x.move(0, 3));
        last("test(3, 2, 1, 1)", 1, x -> x.test(3, 2, 1, 1) ? 1 : 0);
        last("among(3, 1)", 1, x -> x.among(3, 1) ? 1 : 0);
        last("wish(0)", 2, x -> x.wish(0));
        last("off(1)", 0, x -> x.off(1));
    }

    private static void carriageAsTheLastCall() {
        last("send(3)", 1, x -> x.send(3, 1, 1, 1, 1));
        last("deliver(0, 1, 9)", 2, x -> x.deliver(0, 1, 9));
        last("all()", 4, Routes::all);
    }

    private static void questionsAsTheLastCall() {
        last("covers(0, 1)", 1, x -> x.covers(0, 1));
        last("fits(1, 3)", 1, x -> x.fits(1, 3, 0, 0, 0));
        last("table(0, 1, 0)", 0, x -> x.table(0, 1, 0));
        last("told(0, 1, 0)", 1, x -> x.told(0, 1, 0));
        last("message(0, 1, 1)", -2, x -> x.message(0, 1, 1));
        last("heard(0, 0)", -1, x -> x.heard(0, 0));
        last("notice(0, 0)", 5, x -> x.notice(0, 0));
        last("look(1, 11)", 3, x -> x.look(1, 11));
        last("count(5)", 2, x -> x.count(5));
    }

    private static void refusalsAsTheLastCall() {
        last("link(0, 2)", -4, x -> x.link(0, 2));
        last("cut(0, 3)", -5, x -> x.cut(0, 3));
        last("wish(2)", -2, x -> x.wish(2));
        last("send(4)", -2, x -> x.send(4, 1, 1, 1, 1));
        last("deliver(0, 1, -1)", -2, x -> x.deliver(0, 1, -1));
    }

    private static void lastCallAfterAsManySends() {
        Routes x = Worlds.oneReader();
        x.wish(0);
        for (int k = 0; x.left() > 1; k++) {
            Check.due("send", x.send(0, k, 0, 0, 0), k);
        }
        Check.due("the last notice is heard", x.heard(0, 507), 507);
    }

    private static void lastCallAfterAsManyTells() {
        Routes x = Worlds.line(2);
        x.reader(0);
        for (int i = 0; x.left() > 2; i++) {
            if (i % 2 == 0) {
                x.move(0, i % 4 == 0 ? 1 : 0);
            } else {
                x.wish(0);
            }
        }
        Check.due("all() as the call before the last", x.all(), 2);
        Check.due("the tells that were delivered", x.count(9), 2);
    }

    private static void lastCallAfterAsManyLinks() {
        Routes x = Worlds.desks(12);
        x.reader(0);
        x.wish(0);
        for (int i = 0; x.left() > 4; i++) {
            int d = 1 + i % 11;
            Check.due("link", x.link(0, d), 0);
            Check.due("cut", x.cut(d, 0), 0);
        }
        Check.due("messages, all lost", x.count(5), 0);
        Check.due("link", x.link(0, 11), 0);
        Check.due("told", x.told(0, 11, 0), 0);
        Check.due("tells", x.count(6), 1);
    }

    /** Answers are free then, but by rule 7 of LANGUAGE.md no call may throw or fail to end. */
    private static void laterCallsEnd() {
        WishRoutes x = new WishRoutes();
        for (int i = 0; i < 8000; i++) {
            x.desk();
            x.link(i % 13, i % 7);
            x.reader(i % 13);
            x.among(i % 5, i);
            x.wish(i % 25);
            x.send(i % 13, i, i % 3, 0, 0);
            x.move(i % 25, i % 11);
            x.deliver(i % 7, i % 13, i % 4);
            x.off(i % 17 * i);
            if (i % 50 == 0) {
                x.cut(i % 13, i % 7);
                x.all();
            }
        }
        Check.due("desks", x.count(0) <= 12, true);
        Check.due("notices", x.count(3) <= 600, true);
    }
}
