/** Promises 1 to 6: a new object, desk, link, cut, reader, move. */
final class DesksTest {
    private DesksTest() {
    }

    public static void main(String[] args) {
        newObjectIsEmpty();
        newReadingIsAllAny();
        desksAreNumberedUpToTwelve();
        linksKeepOneWayBetweenTwo();
        linkTellsBothWays();
        cutLosesMessagesTablesAndTold();
        cutTellsTheOtherNeighbours();
        linkAfterCutStartsAnew();
        readersAreNumberedUpToTwentyFour();
        moveTakesWishesAlong();
        Check.end();
    }

    private static void newObjectIsEmpty() {
        Routes x = new Routes();
        for (int what = 0; what <= 10; what++) {
            Check.due("new: count(" + what + ")", x.count(what), 0);
        }
        Check.due("new: link(0, 0)", x.link(0, 0), -2);
        Check.due("new: cut(0, 0)", x.cut(0, 0), -2);
        Check.due("new: reader(0)", x.reader(0), -2);
        Check.due("new: move(0, 0)", x.move(0, 0), -2);
        Check.due("new: wish(0)", x.wish(0), -2);
        Check.due("new: off(0)", x.off(0), -2);
        Check.due("new: send(0)", x.send(0, 0, 0, 0, 0), -2);
        Check.due("new: deliver(0, 0, 0)", x.deliver(0, 0, 0), -2);
        Check.due("new: all()", x.all(), 0);
        Check.due("new: covers(0, 0)", x.covers(0, 0), -1);
        Check.due("new: fits(0)", x.fits(0, 0, 0, 0, 0), -1);
        Check.due("new: table(0, 0, 0)", x.table(0, 0, 0), -1);
        Check.due("new: told(0, 0, 0)", x.told(0, 0, 0), -1);
        Check.due("new: message(0, 0, 0)", x.message(0, 0, 0), -1);
        Check.due("new: heard(0, 0)", x.heard(0, 0), -1);
        Check.due("new: notice(0, 4)", x.notice(0, 4), 0);
        Check.due("new: look(0, 1)", x.look(0, 1), 0);
    }

    private static void newReadingIsAllAny() {
        Routes x = new Routes();
        x.desk();
        x.reader(0);
        Check.due("new reading: wish(0)", x.wish(0), 0);
        for (int field = 0; field < 4; field++) {
            Check.due("new reading: kind of " + field, x.look(0, 2 + field), 0);
        }
    }

    private static void desksAreNumberedUpToTwelve() {
        Routes x = new Routes();
        for (int d = 0; d < 12; d++) {
            Check.due("desk()", x.desk(), d);
        }
        Check.due("desk() beyond 12", x.desk(), -8);
        Check.due("desks", x.count(0), 12);
        for (int d = 1; d < 12; d++) {
            Check.due("link(0, " + d + ")", x.link(0, d), 0);
        }
        Check.due("links", x.count(10), 11);
        Check.due("link with desk 12", x.link(0, 12), -2);
    }

    private static void linksKeepOneWayBetweenTwo() {
        Routes x = Worlds.desks(5);
        Check.due("link(0, 1)", x.link(0, 1), 0);
        Check.due("link(2, 1)", x.link(2, 1), 0);
        Check.due("link(3, 4)", x.link(3, 4), 0);
        Check.due("link again", x.link(0, 1), -4);
        Check.due("link again, turned", x.link(1, 0), -4);
        Check.due("link over a way of two", x.link(0, 2), -4);
        Check.due("link of one", x.link(3, 3), -4);
        Check.due("link(-1, 0)", x.link(-1, 0), -2);
        Check.due("link(0, 5)", x.link(0, 5), -2);
        Check.due("link(5, 5)", x.link(5, 5), -2);
        Check.due("link(least, greatest)", x.link(Integer.MIN_VALUE, Integer.MAX_VALUE), -2);
        Check.due("link of two trees", x.link(4, 2), 0);
        Check.due("link in the joined tree", x.link(0, 3), -4);
        Check.due("links", x.count(10), 4);
        Check.due("cut in the middle", x.cut(1, 2), 0);
        Check.due("links after the cut", x.count(10), 3);
        Check.due("link after the cut", x.link(0, 3), 0);
    }

    private static void linkTellsBothWays() {
        Routes x = Worlds.desks(2);
        x.reader(0);
        x.reader(1);
        x.wish(0);
        x.test(0, 1, 1, 2);
        x.wish(1);
        Check.due("tells before the link", x.count(6), 0);
        x.link(1, 0);
        Check.due("tells after the link", x.count(6), 2);
        Check.due("told(0, 1)", Rows.told(x, 0, 1), "0");
        Check.due("told(1, 0)", Rows.told(x, 1, 0), "1");
        Check.due("table(0, 1) before delivery", Rows.table(x, 0, 1), "");
        Check.due("all()", x.all(), 2);
        Check.due("table(0, 1)", Rows.table(x, 0, 1), "1");
        Check.due("table(1, 0)", Rows.table(x, 1, 0), "0");
    }

    private static void cutLosesMessagesTablesAndTold() {
        Routes x = Worlds.desks(3);
        x.link(0, 1);
        x.link(1, 2);
        x.reader(2);
        x.wish(0);
        x.all();
        x.send(0, 1, 1, 1, 1);
        x.deliver(0, 1, 1);
        x.send(0, 2, 2, 2, 2);
        x.reader(1);
        x.test(0, 1, 1, 2);
        x.wish(1);
        Check.due("1 to 2 before the cut", Rows.messages(x, 1, 2), "0 -2");
        Check.due("under way before the cut", x.count(4), 2);
        Check.due("cut(2, 1)", x.cut(2, 1), 0);
        Check.due("1 to 2 after the cut", Rows.messages(x, 1, 2), "");
        Check.due("table(1, 2)", Rows.table(x, 1, 2), "");
        Check.due("told(2, 1)", Rows.told(x, 2, 1), "");
        Check.due("told(1, 2)", Rows.told(x, 1, 2), "");
        Check.due("lost notice", x.notice(0, 5), 0);
        Check.due("other notice", x.notice(1, 5), 1);
        Check.due("under way", x.count(4), 1);
        Check.due("messages", x.count(5), 2);
        Check.due("tells", x.count(6), 1);
        Check.due("came behind messages", x.count(7), 3);
        Check.due("cut again", x.cut(1, 2), -5);
        Check.due("cut of no link", x.cut(0, 2), -5);
        Check.due("cut of one", x.cut(1, 1), -5);
        Check.due("cut(1, 3)", x.cut(1, 3), -2);
        Check.due("cut(-1, 1)", x.cut(-1, 1), -2);
        Check.due("deliver over the cut", x.deliver(1, 2, 1), -5);
    }

    private static void cutTellsTheOtherNeighbours() {
        Routes x = Worlds.desks(4);
        x.link(0, 1);
        x.link(1, 2);
        x.link(1, 3);
        x.reader(2);
        x.wish(0);
        x.all();
        Check.due("told(1, 0) before", Rows.told(x, 1, 0), "0");
        x.cut(1, 2);
        Check.due("told(1, 0)", Rows.told(x, 1, 0), "");
        Check.due("told(1, 3)", Rows.told(x, 1, 3), "");
        Check.due("1 to 0", Rows.messages(x, 1, 0), "-2");
        Check.due("1 to 3", Rows.messages(x, 1, 3), "-2");
        Check.due("table(0, 1) till delivered", Rows.table(x, 0, 1), "0");
        x.all();
        Check.due("table(0, 1)", Rows.table(x, 0, 1), "");
    }

    private static void linkAfterCutStartsAnew() {
        Routes x = Worlds.desks(3);
        x.reader(0);
        x.wish(0);
        x.link(0, 1);
        x.all();
        x.cut(0, 1);
        x.link(2, 1);
        Check.due("told(2, 1)", Rows.told(x, 2, 1), "");
        Check.due("told(1, 2)", Rows.told(x, 1, 2), "");
        Check.due("table(1, 2)", Rows.table(x, 1, 2), "");
        Check.due("table(2, 1) of no wish yet", Rows.table(x, 2, 1), "");
        Check.due("messages", x.count(5), 0);
        x.link(0, 1);
        Check.due("0 to 1", Rows.messages(x, 0, 1), "-2");
        Check.due("table(1, 0)", Rows.table(x, 1, 0), "");
        Check.due("all()", x.all(), 2);
        Check.due("table(2, 1)", Rows.table(x, 2, 1), "0");
        x.send(2, 1, 1, 1, 1);
        x.off(0);
        x.cut(2, 1);
        x.cut(0, 1);
        x.link(2, 1);
        x.link(0, 1);
        Check.due("messages lost with the cuts", x.count(5), 0);
        Check.due("all() after the cuts", x.all(), 0);
    }

    private static void readersAreNumberedUpToTwentyFour() {
        Routes x = Worlds.desks(2);
        Check.due("reader(2)", x.reader(2), -2);
        Check.due("reader(-1)", x.reader(-1), -2);
        for (int r = 0; r < 24; r++) {
            Check.due("reader()", x.reader(r % 2), r);
        }
        Check.due("reader beyond 24", x.reader(1), -8);
        Check.due("reader beyond 24 at no desk", x.reader(2), -2);
        Check.due("readers", x.count(1), 24);
        x.wish(23);
        x.send(1, 0, 0, 0, 0);
        Check.due("the last reader hears at its desk", Rows.heard(x, 23), "0");
    }

    private static void moveTakesWishesAlong() {
        Routes x = Worlds.desks(3);
        x.link(0, 1);
        x.link(1, 2);
        x.reader(0);
        x.wish(0);
        x.all();
        Check.due("move(0, 2)", x.move(0, 2), 0);
        Check.due("told(0, 1)", Rows.told(x, 0, 1), "");
        Check.due("told(2, 1)", Rows.told(x, 2, 1), "0");
        Check.due("tells", x.count(6), 2);
        x.send(0, 1, 1, 1, 1);
        Check.due("not heard at the old desk", Rows.heard(x, 0), "");
        x.send(2, 1, 1, 1, 1);
        Check.due("heard at the new desk", Rows.heard(x, 0), "1");
        Check.due("move to where it is", x.move(0, 2), -4);
        Check.due("move(1, 2)", x.move(1, 2), -2);
        Check.due("move(-1, 2)", x.move(-1, 2), -2);
        Check.due("move(0, 3)", x.move(0, 3), -2);
        Check.due("move(0, -1)", x.move(0, -1), -2);
        Check.due("off tells at the new desk", x.off(0), 0);
        Check.due("told(2, 1) after off", Rows.told(x, 2, 1), "");
    }
}
