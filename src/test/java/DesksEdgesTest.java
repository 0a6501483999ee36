/** The boundary cases of promises 1 to 6, a sentence of the document at a time. */
final class DesksEdgesTest {
    private static final int LEAST = Worlds.LEAST;
    private static final int MOST = Worlds.MOST;

    private DesksEdgesTest() {
    }

    public static void main(String[] args) {
        newObjectHasNoDesks();
        newObjectHasNoReaders();
        newObjectHasNoWishes();
        newObjectHasNoNotices();
        newReadingIsAllAny();
        newObjectBesideAFullOne();
        desksFromNoneToTwelve();
        linkWithTheFirstAndTheLastDesk();
        linkOfNoSuchDesk();
        linkWhereThereIsAWay();
        linkOfOne();
        linksAreElevenAtMost();
        linkWhereTheWayWasCut();
        cutOfNoSuchDesk();
        cutOfDesksThatAreNotLinked();
        cutOfALinkWithNothing();
        cutLosesAllMessagesBothWays();
        cutLosesTablesBothWays();
        cutLosesWhatWasToldBothWays();
        cutOfAFullLinkLetsSendAgain();
        readersFromNoneToTwentyFour();
        readerAtNoSuchDesk();
        moveToTheLastDesk();
        moveOfNoSuchReaderOrDesk();
        moveToWhereItIs();
        moveOfOneWithoutWishes();
        moveBetweenDesksWithoutAWay();
        Check.end();
    }

    private static void newObjectHasNoDesks() {
        Check.sentence("Promise 1", "No DESKS");
        Routes x = new Routes();
        Check.due("count(0)", x.count(0), 0);
        Check.due("count(10)", x.count(10), 0);
        Check.due("link(0, 0)", x.link(0, 0), -2);
        Check.due("link(0, 1)", x.link(0, 1), -2);
        Check.due("cut(0, 1)", x.cut(0, 1), -2);
        Check.due("reader(0)", x.reader(0), -2);
        Check.due("send(0)", x.send(0, 0, 0, 0, 0), -2);
        Check.due("deliver(0, 0, 0)", x.deliver(0, 0, 0), -2);
        Check.due("table(0, 0, 0)", x.table(0, 0, 0), -1);
        Check.due("told(0, 0, 0)", x.told(0, 0, 0), -1);
        Check.due("message(0, 0, 0)", x.message(0, 0, 0), -1);
        Check.due("all()", x.all(), 0);
        Check.due("the first desk()", x.desk(), 0);
    }

    private static void newObjectHasNoReaders() {
        Check.sentence("Promise 1", "No .. READERS");
        Routes x = Worlds.desks(1);
        Check.due("count(1)", x.count(1), 0);
        Check.due("move(0, 0)", x.move(0, 0), -2);
        Check.due("wish(0)", x.wish(0), -2);
        Check.due("heard(0, 0)", x.heard(0, 0), -1);
        Check.due("the first reader(0)", x.reader(0), 0);
    }

    private static void newObjectHasNoWishes() {
        Check.sentence("Promise 1", "No .. WISHES");
        Routes x = Worlds.oneReader();
        Check.due("count(2)", x.count(2), 0);
        Check.due("off(0)", x.off(0), -2);
        Check.due("covers(0, 0)", x.covers(0, 0), -1);
        Check.due("fits(0)", x.fits(0, 0, 0, 0, 0), -1);
        for (int what = 0; what < 26; what++) {
            Check.due("look(0, " + what + ")", x.look(0, what), 0);
        }
        Check.due("the first wish(0)", x.wish(0), 0);
    }

    private static void newObjectHasNoNotices() {
        Check.sentence("Promise 1", "No .. NOTICES");
        Routes x = Worlds.oneReader();
        x.wish(0);
        for (int what = 3; what <= 9; what++) {
            Check.due("count(" + what + ")", x.count(what), 0);
        }
        for (int what = 0; what < 6; what++) {
            Check.due("notice(0, " + what + ")", x.notice(0, what), 0);
        }
        Check.due("heard(0, 0)", x.heard(0, 0), -1);
        Check.due("the first send(0)", x.send(0, 0, 0, 0, 0), 0);
    }

    private static void newReadingIsAllAny() {
        Check.sentence("Promise 1", "the READING is all ANY");
        Routes x = Worlds.oneReader();
        x.wish(0);
        Check.due("kinds", Rows.kinds(x, 0), "0 0 0 0");
        for (int field = 0; field < 4; field++) {
            Check.due("numbers of " + field, Rows.numbers(x, 0, field), "0 0 0 0");
        }
        Check.due("fits the least", x.fits(0, LEAST, LEAST, LEAST, LEAST), 1);
        Check.due("fits the greatest", x.fits(0, MOST, MOST, MOST, MOST), 1);
    }

    private static void newObjectBesideAFullOne() {
        Check.sentence("Promise 1", "No DESKS, READERS, WISHES, NOTICES; the READING is all ANY");
        String alone = State.of(Routes::new);
        Routes full = Worlds.star(12);
        for (int r = 0; r < 24; r++) {
            full.reader(0);
        }
        for (int w = 0; w < 300; w++) {
            full.wish(0);
        }
        full.all();
        for (int k = 0; k < 60; k++) {
            full.send(1, 1, 1, 1, 1);
        }
        full.among(0, 1);
        Check.due("what the other one has", State.difference(alone, State.of(Routes::new)), "");
    }

    private static void desksFromNoneToTwelve() {
        Check.sentence("Promise 2", "One more DESK: its number; -8: there are 12");
        Routes x = new Routes();
        for (int d = 0; d < 12; d++) {
            Check.due("no desk " + d + " yet", x.reader(d), -2);
            Check.due("desks before desk()", x.count(0), d);
            Check.due("desk()", x.desk(), d);
        }
        Check.due("the 13th desk()", x.desk(), -8);
        Check.due("the 14th desk()", x.desk(), -8);
        Check.due("desks", x.count(0), 12);
        Check.due("a reader at the last desk", x.reader(11), 0);
        Check.due("a reader at the one that was refused", x.reader(12), -2);
        Check.due("link of the last two", x.link(10, 11), 0);
        Check.due("send at the last", x.send(11, 0, 0, 0, 0), 0);
    }

    private static void linkWithTheFirstAndTheLastDesk() {
        Check.sentence("Promise 3", "DESKS u and v are LINKED: 0");
        Routes x = Worlds.desks(12);
        Check.due("link(0, 11)", x.link(0, 11), 0);
        Check.due("link(10, 1)", x.link(10, 1), 0);
        Check.due("links", x.count(10), 2);
        Check.due("deliver(0, 11, 1)", x.deliver(0, 11, 1), 0);
        Check.due("deliver(11, 0, 1)", x.deliver(11, 0, 1), 0);
        Check.due("deliver(1, 10, 1)", x.deliver(1, 10, 1), 0);
        Check.due("deliver(0, 10, 1), of two that are not", x.deliver(0, 10, 1), -5);
    }

    private static void linkOfNoSuchDesk() {
        Check.sentence("Promise 3", "-2: there is no such DESK (u or v)");
        for (int desks : new int[] {1, 2, 12}) {
            Routes x = Worlds.desks(desks);
            for (int d : Worlds.outside(desks)) {
                Check.due("link(" + d + ", 0) of " + desks, x.link(d, 0), -2);
                Check.due("link(0, " + d + ") of " + desks, x.link(0, d), -2);
                Check.due("link(" + d + ", itself) of " + desks, x.link(d, d), -2);
            }
            Check.due("links", x.count(10), 0);
        }
    }

    private static void linkWhereThereIsAWay() {
        Check.sentence("Promise 3", "-4: there is a way between them");
        Routes x = Worlds.line(12);
        for (int u = 0; u < 12; u++) {
            for (int v = 0; v < 12; v++) {
                Check.due("link(" + u + ", " + v + ") in a line", x.link(u, v), -4);
            }
        }
        Routes y = Worlds.desks(4);
        y.link(0, 1);
        y.link(2, 3);
        Check.due("link of two trees", y.link(3, 0), 0);
        Check.due("link of the trees' other ends", y.link(1, 2), -4);
    }

    private static void linkOfOne() {
        Check.sentence("Promise 3", "-4: .. (or they are one)");
        Routes x = Worlds.desks(12);
        for (int d = 0; d < 12; d++) {
            Check.due("link(" + d + ", itself)", x.link(d, d), -4);
        }
        Check.due("links", x.count(10), 0);
        Check.due("cut(0, 0)", x.cut(0, 0), -5);
    }

    private static void linksAreElevenAtMost() {
        Check.sentence("Terms 1", "so that there is never more than one way between two");
        Routes x = Worlds.desks(12);
        for (int d = 1; d < 12; d++) {
            Check.due("link", x.link(d, d / 2), 0);
            Check.due("links", x.count(10), d);
        }
        for (int u = 0; u < 12; u++) {
            for (int v = 0; v < 12; v++) {
                Check.due("link(" + u + ", " + v + ") beyond 11", x.link(u, v), -4);
            }
        }
        Check.due("links", x.count(10), 11);
    }

    private static void linkWhereTheWayWasCut() {
        Check.sentence("Promise 4", "They are LINKED no more");
        Routes x = Worlds.line(4);
        x.cut(1, 2);
        Check.due("links", x.count(10), 2);
        Check.due("link on the one side", x.link(1, 0), -4);
        Check.due("link on the other side", x.link(2, 3), -4);
        Check.due("link over the cut", x.link(0, 3), 0);
        Check.due("link of those that were cut, with a way around", x.link(1, 2), -4);
        x.cut(3, 0);
        Check.due("link of those that were cut", x.link(1, 2), 0);
    }

    private static void cutOfNoSuchDesk() {
        Check.sentence("Promise 4", "-2");
        for (int desks : new int[] {2, 12}) {
            Routes x = Worlds.line(desks);
            for (int d : Worlds.outside(desks)) {
                Check.due("cut(" + d + ", 0) of " + desks, x.cut(d, 0), -2);
                Check.due("cut(0, " + d + ") of " + desks, x.cut(0, d), -2);
                Check.due("cut(" + d + ", itself) of " + desks, x.cut(d, d), -2);
            }
            Check.due("links", x.count(10), desks - 1);
            Check.due("cut of the last two", x.cut(desks - 1, desks - 2), 0);
        }
    }

    private static void cutOfDesksThatAreNotLinked() {
        Check.sentence("Promise 4", "-5: they are not LINKED");
        Routes x = Worlds.line(12);
        for (int u = 0; u < 12; u++) {
            for (int v = 0; v < 12; v++) {
                if (Math.abs(u - v) != 1) {
                    Check.due("cut(" + u + ", " + v + ") in a line", x.cut(u, v), -5);
                }
            }
        }
        Check.due("links", x.count(10), 11);
        Check.due("cut(10, 11)", x.cut(10, 11), 0);
        Check.due("cut(10, 11) again", x.cut(10, 11), -5);
        Check.due("cut(11, 10) again, turned", x.cut(11, 10), -5);
        Check.due("cut(1, 0), linked as (0, 1)", x.cut(1, 0), 0);
        Check.due("links", x.count(10), 9);
    }

    private static void cutOfALinkWithNothing() {
        Check.sentence("Promise 4", "all MESSAGES between them are lost");
        Routes x = Worlds.line(2);
        Check.due("cut(0, 1) of no messages", x.cut(0, 1), 0);
        Check.due("messages", x.count(5), 0);
        Check.due("links", x.count(10), 0);
        Check.due("link again", x.link(0, 1), 0);
        Check.due("messages", x.count(5), 0);
    }

    /** Desks 1 and 2 have messages of both kinds, tables and tolds both ways; so have 0 and 1. */
    private static Routes twoTalkingLinks() {
        Routes x = Worlds.line(3);
        for (int d = 0; d < 3; d++) {
            x.reader(d);
            Worlds.between(x, d, 10 * d, 10 * d + 9);
        }
        x.all();
        for (int d = 0; d < 3; d++) {
            Worlds.between(x, d, 100 + d, 100 + d);
        }
        Worlds.send(x, 0, 15);
        Worlds.send(x, 1, 5);
        Worlds.send(x, 1, 25);
        Worlds.send(x, 2, 15);
        return x;
    }

    private static void cutLosesAllMessagesBothWays() {
        Check.sentence("Promise 4", "all MESSAGES between them are lost");
        Routes x = twoTalkingLinks();
        Check.due("1 to 2 before", Rows.messages(x, 1, 2), "-2 2");
        Check.due("2 to 1 before", Rows.messages(x, 2, 1), "-2 3");
        Check.due("messages before", x.count(5), 8);
        int came = x.count(7);
        int delivered = x.count(9);
        x.cut(1, 2);
        Check.due("what is lost did come behind messages", x.count(7), came);
        Check.due("what is lost was not delivered", x.count(9), delivered);
        Check.due("1 to 2", Rows.messages(x, 1, 2), "");
        Check.due("2 to 1", Rows.messages(x, 2, 1), "");
        Check.due("0 to 1 stay", Rows.messages(x, 0, 1), "-2 0");
        Check.due("1 to 0 stay, with a tell of the cut", Rows.messages(x, 1, 0), "-2 1 -2");
        Check.due("notice 2 is lost", x.notice(2, 5), 0);
        Check.due("notice 3 is lost", x.notice(3, 5), 0);
        Check.due("notice 0 stays", x.notice(0, 5), 1);
        Check.due("under way", x.count(4), 2);
        Check.due("messages", x.count(5), 5);
        Check.due("tells", x.count(6), 3);
        Check.due("link again", x.link(1, 2), 0);
        Check.due("1 to 2, new ones alone", Rows.messages(x, 1, 2), "-2");
        Check.due("2 to 1, new ones alone", Rows.messages(x, 2, 1), "-2");
    }

    private static void cutLosesTablesBothWays() {
        Check.sentence("Promise 4", "their TABLES of one another .. are none");
        Routes x = twoTalkingLinks();
        Check.due("table(1, 2) before", Rows.table(x, 1, 2), "2");
        Check.due("table(2, 1) before", Rows.table(x, 2, 1), "0 1");
        x.cut(2, 1);
        Check.due("table(1, 2)", Rows.table(x, 1, 2), "");
        Check.due("table(2, 1)", Rows.table(x, 2, 1), "");
        Check.due("table(1, 0) stays", Rows.table(x, 1, 0), "0");
        Check.due("table(0, 1) stays", Rows.table(x, 0, 1), "1 2");
        x.link(1, 2);
        Check.due("table(1, 2) as linked again", Rows.table(x, 1, 2), "");
        Check.due("table(2, 1) as linked again", Rows.table(x, 2, 1), "");
    }

    private static void cutLosesWhatWasToldBothWays() {
        Check.sentence("Promise 4", "what they TOLD one another are none");
        Routes x = twoTalkingLinks();
        Check.due("told(1, 2) before", Rows.told(x, 1, 2), "0 1 4");
        Check.due("told(2, 1) before", Rows.told(x, 2, 1), "2 5");
        x.cut(1, 2);
        Check.due("told(1, 2)", Rows.told(x, 1, 2), "");
        Check.due("told(2, 1)", Rows.told(x, 2, 1), "");
        Check.due("told(0, 1) stays", Rows.told(x, 0, 1), "0 3");
        Check.due("told(1, 0) is without what is cut off", Rows.told(x, 1, 0), "1 4");
        x.link(2, 1);
        Check.due("told(1, 2) as linked again", Rows.told(x, 1, 2), "0 1 4");
        Check.due("told(2, 1) as linked again", Rows.told(x, 2, 1), "2 5");
    }

    private static void cutOfAFullLinkLetsSendAgain() {
        Check.sentence("Promise 4", "all MESSAGES between them are lost");
        Routes x = Worlds.line(2);
        x.reader(1);
        x.wish(0);
        x.all();
        for (int k = 0; k < 60; k++) {
            Worlds.send(x, 0, k);
        }
        Check.due("send beyond 60", Worlds.send(x, 0, 60), -8);
        x.cut(0, 1);
        Check.due("under way", x.count(4), 0);
        Check.due("messages", x.count(5), 0);
        x.link(0, 1);
        x.all();
        for (int k = 60; k < 120; k++) {
            Check.due("send after the cut", Worlds.send(x, 0, k), k);
        }
        Check.due("send beyond 60 again", Worlds.send(x, 0, 120), -8);
        Check.due("all()", x.all(), 60);
        Check.due("heard first", x.heard(0, 0), 60);
        Check.due("heard last", x.heard(0, 59), 119);
    }

    private static void readersFromNoneToTwentyFour() {
        Check.sentence("Promise 5", "One more READER at a DESK: its number .. -8: there are 24");
        Routes x = Worlds.desks(12);
        for (int r = 0; r < 24; r++) {
            Check.due("no reader " + r + " yet", x.wish(r), -2);
            Check.due("reader()", x.reader(11 - r % 12), r);
        }
        for (int d = 0; d < 12; d++) {
            Check.due("the 25th reader(" + d + ")", x.reader(d), -8);
        }
        Check.due("readers", x.count(1), 24);
        Check.due("wish of the last", x.wish(23), 0);
        Check.due("wish of the one that was refused", x.wish(24), -2);
        Check.due("the last is where it was put", x.move(23, 0), -4);
        Routes y = Worlds.desks(1);
        for (int r = 0; r < 24; r++) {
            Check.due("all at one desk", y.reader(0), r);
            y.wish(r);
        }
        y.send(0, 0, 0, 0, 0);
        for (int r = 0; r < 24; r++) {
            Check.due("each of 24 at one desk heard", y.heard(r, 0), 0);
        }
    }

    private static void readerAtNoSuchDesk() {
        Check.sentence("Promise 5", "-2: there is no such DESK; -8: there are 24");
        for (int desks : new int[] {0, 1, 12}) {
            Routes x = Worlds.desks(desks);
            for (int d : Worlds.outside(desks)) {
                Check.due("reader(" + d + ") of " + desks, x.reader(d), -2);
            }
            Check.due("readers", x.count(1), 0);
        }
        Routes full = Worlds.desks(2);
        for (int r = 0; r < 24; r++) {
            full.reader(1);
        }
        Check.due("reader(2), with 24, too", full.reader(2), -2);
        Check.due("reader(1), with 24", full.reader(1), -8);
    }

    private static void moveToTheLastDesk() {
        Check.sentence("Promise 6", "The READER, with its WISHES, is at that DESK: 0");
        Routes x = Worlds.desks(12);
        for (int r = 0; r < 24; r++) {
            x.reader(5);
            x.wish(r);
        }
        Check.due("move(23, 11)", x.move(23, 11), 0);
        Check.due("move(0, 0)", x.move(0, 0), 0);
        x.send(11, 0, 0, 0, 0);
        x.send(0, 0, 0, 0, 0);
        x.send(5, 0, 0, 0, 0);
        Check.due("the last heard at the last desk", Rows.heard(x, 23), "0");
        Check.due("the first heard at the first desk", Rows.heard(x, 0), "1");
        Check.due("one of the others heard where it stayed", Rows.heard(x, 12), "2");
    }

    private static void moveOfNoSuchReaderOrDesk() {
        Check.sentence("Promise 6", "-2: there is no such READER or DESK");
        Routes x = Worlds.desks(2);
        x.reader(0);
        for (int n : Worlds.outside(1)) {
            Check.due("move(" + n + ", 1)", x.move(n, 1), -2);
        }
        for (int n : Worlds.outside(2)) {
            Check.due("move(0, " + n + ")", x.move(0, n), -2);
            Check.due("move(" + n + ", " + n + ")", x.move(n, n), -2);
        }
        Check.due("move(0, 1), the last of both", x.move(0, 1), 0);
    }

    private static void moveToWhereItIs() {
        Check.sentence("Promise 6", "-4: it is there");
        Routes x = Worlds.desks(3);
        x.reader(1);
        Check.due("move to where it was put", x.move(0, 1), -4);
        Check.due("move away", x.move(0, 2), 0);
        Check.due("move to where it came", x.move(0, 2), -4);
        Check.due("move back", x.move(0, 1), 0);
        Check.due("move back again", x.move(0, 1), -4);
        Check.due("move to the first", x.move(0, 0), 0);
        Check.due("move to the first again", x.move(0, 0), -4);
    }

    private static void moveOfOneWithoutWishes() {
        Check.sentence("Promise 6", "The READER, with its WISHES");
        Routes x = Worlds.line(2);
        x.reader(0);
        Check.due("move(0, 1)", x.move(0, 1), 0);
        Check.due("messages", x.count(5), 0);
        x.wish(0);
        x.off(0);
        x.all();
        Check.due("move of one whose wish is OFF", x.move(0, 0), 0);
        Check.due("messages", x.count(5), 0);
    }

    private static void moveBetweenDesksWithoutAWay() {
        Check.sentence("Promise 6", "The READER, with its WISHES, is at that DESK");
        Routes x = Worlds.desks(4);
        x.link(0, 1);
        x.link(2, 3);
        x.reader(0);
        x.wish(0);
        x.all();
        Check.due("move(0, 2)", x.move(0, 2), 0);
        Check.due("told(0, 1)", Rows.told(x, 0, 1), "");
        Check.due("told(2, 3)", Rows.told(x, 2, 3), "0");
        Check.due("tells", x.count(6), 2);
    }
}
