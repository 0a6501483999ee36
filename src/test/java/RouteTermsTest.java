/** The boundary cases that point 2 of 'Terms' names: messages, tables, what is MEANT, notices, NEEDLESS. */
final class RouteTermsTest {
    private static final int LEAST = Worlds.LEAST;
    private static final int MOST = Worlds.MOST;
    private static final int NOT = 2;

    private RouteTermsTest() {
    }

    public static void main(String[] args) {
        messagesAreOneBehindTheOther();
        messagesInOrderOverALongTime();
        tellsKeepTheirRowsOverALongTime();
        tableIsNoneAtFirst();
        tableIsOfTheLatestTellAlone();
        tableIsOfTheLatestThatWasDelivered();
        meantAreAliveWishesOfReadersAtTheDesk();
        meantAreNotThoseOfTheNeighbourItself();
        meantAreThoseInTablesAliveOrNot();
        meantAreEachOnce();
        meantAreByTheirNumbers();
        meantAreThoseThatNoOtherCovers();
        meantAreCoveredByTheseAlone();
        meantIsWhatOnlySeveralCoverTogether();
        ofSeveralThatAreSameTheLeastStays();
        ofSameOnesInTablesTheLeastStays();
        whatNothingFitsIsMeantAlone();
        toldIsNoneAtFirst();
        noTellOfTheSameRow();
        aTellOfNoWishes();
        aTellForEachNeighbour();
        aTellAfterEachKindOfChange();
        aTellTakesTheLastOnesPlace();
        aTellTakesNoPlaceBeforeANotice();
        aTellTakesNoPlaceOfADeliveredOne();
        aTellThatTakesBackStays();
        droppedWhereItWasSent();
        droppedWhereItWasDelivered();
        droppedBesideOnesThatAreNot();
        heardByEachReaderAtTheDesk();
        heardByAliveWishesAlone();
        heardByAReaderOnce();
        notBackToWhereItWasDeliveredFrom();
        onlyToThoseInWhoseTableItFits();
        passedOnForWishesThatAreOff();
        underWayAsLongAsAMessageIsIt();
        needlessWithoutAReaderBehind();
        needlessByWishesThatDoNotFit();
        needlessByReadersOnThisSide();
        needlessByReadersWithoutAWay();
        needlessIsOfThen();
        needlessAtEachDesk();
        Check.end();
    }

    private static void messagesAreOneBehindTheOther() {
        Check.sentence("Terms 2", "each way, MESSAGES, one behind the other");
        Routes x = Worlds.line(2);
        x.reader(0);
        x.reader(1);
        x.wish(0);
        x.wish(1);
        x.all();
        for (int k = 0; k < 6; k++) {
            Worlds.send(x, k % 2, k);
        }
        Check.due("0 to 1", Rows.messages(x, 0, 1), "0 2 4");
        Check.due("1 to 0", Rows.messages(x, 1, 0), "1 3 5");
        x.deliver(0, 1, 1);
        Check.due("0 to 1 after one", Rows.messages(x, 0, 1), "2 4");
        Check.due("1 to 0 stays", Rows.messages(x, 1, 0), "1 3 5");
    }

    /** More messages than can ever lie between two desks go by, while some always lie there. */
    private static void messagesInOrderOverALongTime() {
        Check.sentence("Terms 2", "MESSAGES, one behind the other");
        Routes x = Worlds.line(2);
        x.reader(1);
        x.wish(0);
        x.all();
        for (int k = 0; k < 160; k++) {
            Check.due("send", Worlds.send(x, 0, k), k);
            if (k >= 50) {
                Check.due("deliver", x.deliver(0, 1, 1), 1);
            }
        }
        for (int i = 0; i < 50; i++) {
            Check.due("message " + i, x.message(0, 1, i), 110 + i);
        }
        Check.due("no more", x.message(0, 1, 50), -1);
        for (int i = 0; i < 110; i++) {
            Check.due("heard " + i, x.heard(0, i), i);
        }
        Check.due("no more heard", x.heard(0, 110), -1);
    }

    private static void tellsKeepTheirRowsOverALongTime() {
        Check.sentence("Terms 2", "TELLS (each a row of WISHES)");
        Routes x = Worlds.line(2);
        x.reader(1);
        x.reader(0);
        x.wish(0);
        x.all();
        int lag = 10;
        for (int k = 0; k < 75; k++) {
            Worlds.send(x, 0, k);
            Worlds.between(x, 1, k, k);
            if (k >= lag) {
                x.deliver(0, 1, 2);
                Check.due("the last wish of the row", x.table(1, 0, k - lag), k - lag + 1);
                Check.due("none behind", x.table(1, 0, k - lag + 1), -1);
            }
        }
        Check.due("messages", x.count(5), 2 * lag);
        Check.due("tells", x.count(6), lag);
    }

    private static void tableIsNoneAtFirst() {
        Check.sentence("Terms 2", "(none at first)");
        Routes x = Worlds.desks(2);
        x.reader(0);
        x.wish(0);
        Check.due("table(1, 0) without a link", x.table(1, 0, 0), -1);
        x.link(0, 1);
        Check.due("table(1, 0) as linked", x.table(1, 0, 0), -1);
        Check.due("table(0, 1) as linked", x.table(0, 1, 0), -1);
        Check.due("a tell is on its way", Rows.messages(x, 0, 1), "-2");
        x.deliver(0, 1, 1);
        Check.due("table(1, 0) as delivered", Rows.table(x, 1, 0), "0");
        Check.due("table(0, 1) stays none", Rows.table(x, 0, 1), "");
    }

    private static void tableIsOfTheLatestTellAlone() {
        Check.sentence("Terms 2", "the row of WISHES of the latest TELL from v that was delivered");
        Routes x = Worlds.line(2);
        x.reader(0);
        Worlds.between(x, 0, 1, 1);
        Worlds.between(x, 0, 2, 2);
        x.all();
        Check.due("table(1, 0)", Rows.table(x, 1, 0), "0 1");
        x.off(0);
        Worlds.between(x, 0, 3, 3);
        x.all();
        Check.due("table(1, 0) of the next", Rows.table(x, 1, 0), "1 2");
        x.off(1);
        x.off(2);
        x.all();
        Check.due("table(1, 0) of a row of none", Rows.table(x, 1, 0), "");
    }

    private static void tableIsOfTheLatestThatWasDelivered() {
        Check.sentence("Terms 2", "the latest TELL from v that was delivered");
        Routes x = twoTellsAroundANotice();
        Check.due("table(1, 0)", Rows.table(x, 1, 0), "");
        x.deliver(0, 1, 1);
        Check.due("table(1, 0) of the first tell", Rows.table(x, 1, 0), "1");
        x.deliver(0, 1, 1);
        Check.due("table(1, 0) after the notice", Rows.table(x, 1, 0), "1");
        Check.due("told(0, 1) is ahead of it", Rows.told(x, 0, 1), "1 2");
        x.deliver(0, 1, 1);
        Check.due("table(1, 0) of the second tell", Rows.table(x, 1, 0), "1 2");
    }

    private static Routes twoTellsAroundANotice() {
        Routes x = Worlds.line(2);
        x.reader(0);
        x.reader(1);
        x.wish(1);
        x.all();
        Worlds.between(x, 0, 1, 1);
        Worlds.send(x, 0, 7);
        Worlds.between(x, 0, 2, 2);
        return x;
    }

    private static void meantAreAliveWishesOfReadersAtTheDesk() {
        Check.sentence("Terms 2", "all ALIVE WISHES of READERS at u");
        Routes x = Worlds.line(2);
        x.reader(0);
        x.reader(0);
        x.reader(1);
        Worlds.between(x, 0, 1, 1);
        Worlds.between(x, 1, 2, 2);
        Worlds.between(x, 2, 3, 3);
        Worlds.between(x, 0, 4, 4);
        Check.due("told(0, 1)", Rows.told(x, 0, 1), "0 1 3");
        Check.due("told(1, 0)", Rows.told(x, 1, 0), "2");
        x.off(0);
        Check.due("told(0, 1) after off", Rows.told(x, 0, 1), "1 3");
        x.move(2, 0);
        Check.due("told(0, 1) after a move here", Rows.told(x, 0, 1), "1 2 3");
        Check.due("told(1, 0) after a move away", Rows.told(x, 1, 0), "");
        x.move(1, 1);
        Check.due("told(0, 1) after a move away", Rows.told(x, 0, 1), "2 3");
    }

    private static void meantAreNotThoseOfTheNeighbourItself() {
        Check.sentence("Terms 2", "all in u's TABLES of its other neighbours");
        Routes x = Worlds.star(4);
        for (int d = 1; d < 4; d++) {
            x.reader(d);
            Worlds.between(x, d - 1, d, d);
        }
        x.all();
        Check.due("told(0, 1)", Rows.told(x, 0, 1), "1 2");
        Check.due("told(0, 2)", Rows.told(x, 0, 2), "0 2");
        Check.due("told(0, 3)", Rows.told(x, 0, 3), "0 1");
        Check.due("told(1, 0), with no other neighbour", Rows.told(x, 1, 0), "0");
    }

    private static void meantAreThoseInTablesAliveOrNot() {
        Check.sentence("Terms 2", "(ALIVE or not)");
        Routes x = Worlds.line(3);
        x.reader(0);
        x.reader(1);
        Worlds.between(x, 0, 1, 9);
        x.all();
        x.off(0);
        Check.due("told(0, 1)", Rows.told(x, 0, 1), "");
        Worlds.between(x, 1, 20, 20);
        Check.due("told(1, 2) with one that is OFF", Rows.told(x, 1, 2), "0 1");
        Worlds.between(x, 1, 5, 5);
        Check.due("told(1, 2) with one that it covers", Rows.told(x, 1, 2), "0 1");
        x.deliver(0, 1, 1);
        Check.due("told(1, 2) as the table is without it", Rows.told(x, 1, 2), "1 2");
    }

    private static void meantAreEachOnce() {
        Check.sentence("Terms 2", "each once");
        Routes x = Worlds.line(3);
        x.reader(0);
        x.wish(0);
        x.all();
        x.move(0, 1);
        Check.due("table(1, 0), of where it was", Rows.table(x, 1, 0), "0");
        Check.due("told(1, 2), of the desk and of a table", Rows.told(x, 1, 2), "0");
        Check.due("told(1, 0)", Rows.told(x, 1, 0), "0");
        Check.due("no tell of it again", Rows.messages(x, 1, 2), "");
        Routes y = Worlds.star(4);
        y.reader(1);
        y.wish(0);
        y.all();
        y.move(0, 2);
        y.deliver(2, 0, 1);
        Check.due("table(0, 1)", Rows.table(y, 0, 1), "0");
        Check.due("table(0, 2)", Rows.table(y, 0, 2), "0");
        Check.due("told(0, 3), of two tables", Rows.told(y, 0, 3), "0");
        Check.due("no tell of it again", Rows.messages(y, 0, 3), "");
    }

    private static void meantAreByTheirNumbers() {
        Check.sentence("Terms 2", "by their numbers");
        Routes x = Worlds.star(4);
        x.reader(1);
        x.reader(2);
        x.reader(0);
        for (int w = 0; w < 6; w++) {
            Worlds.between(x, w % 3, w, w);
        }
        Check.due("told(0, 3) of its own", Rows.told(x, 0, 3), "2 5");
        x.deliver(2, 0, 1);
        Check.due("told(0, 3) with the second table", Rows.told(x, 0, 3), "1 2 4 5");
        x.deliver(1, 0, 1);
        Check.due("told(0, 3) with the first table", Rows.told(x, 0, 3), "0 1 2 3 4 5");
        x.deliver(0, 3, 1);
        Check.due("table(3, 0)", Rows.table(x, 3, 0), "0 1 2 3 4 5");
    }

    private static void meantAreThoseThatNoOtherCovers() {
        Check.sentence("Terms 2", "those that no other one of these COVERS");
        Routes x = Worlds.line(2);
        x.reader(0);
        Worlds.between(x, 0, 4, 5);
        Worlds.between(x, 0, 3, 6);
        Check.due("told of a wider one behind", Rows.told(x, 0, 1), "1");
        Worlds.between(x, 0, 5, 6);
        Check.due("told of a narrower one behind", Rows.told(x, 0, 1), "1");
        Worlds.between(x, 0, 6, 7);
        Check.due("told of one half beside", Rows.told(x, 0, 1), "1 3");
        Worlds.between(x, 0, 2, 8);
        Check.due("told of one above all", Rows.told(x, 0, 1), "4");
        x.off(4);
        Check.due("told without it", Rows.told(x, 0, 1), "1 3");
        x.off(1);
        Check.due("told without another one", Rows.told(x, 0, 1), "0 2 3");
    }

    private static void meantAreCoveredByTheseAlone() {
        Check.sentence("Terms 2", "no other one of these");
        Routes x = Worlds.line(3);
        x.reader(0);
        x.reader(1);
        Worlds.between(x, 0, 1, 9);
        Worlds.between(x, 1, 4, 5);
        Check.due("told(1, 0) of one that another desk's covers", Rows.told(x, 1, 0), "1");
        x.all();
        Check.due("told(1, 0) with that one in its table of 0", Rows.told(x, 1, 0), "1");
        Check.due("told(1, 2) with that one in its table of 0", Rows.told(x, 1, 2), "0");
        Routes y = Worlds.line(2);
        y.reader(0);
        Worlds.between(y, 0, 1, 9);
        Worlds.between(y, 0, 4, 5);
        y.off(0);
        Check.due("told of one that a wish that is OFF covers", Rows.told(y, 0, 1), "1");
    }

    private static void meantIsWhatOnlySeveralCoverTogether() {
        Check.sentence("Terms 2", "no other one of these COVERS");
        Routes x = Worlds.line(2);
        x.reader(0);
        Worlds.between(x, 0, 1, 5);
        Worlds.between(x, 0, 6, 9);
        Worlds.between(x, 0, 4, 7);
        Check.due("told", Rows.told(x, 0, 1), "0 1 2");
    }

    private static void ofSeveralThatAreSameTheLeastStays() {
        Check.sentence("Terms 2", "(of several that are SAME the least stays)");
        Routes x = Worlds.line(2);
        x.reader(0);
        x.reader(0);
        Worlds.between(x, 0, 7, 7);
        Worlds.numbered(x, 1, 7);
        Worlds.between(x, 0, 7, 7);
        Check.due("told of three", Rows.told(x, 0, 1), "0");
        x.off(1);
        Check.due("told without the middle one", Rows.told(x, 0, 1), "0");
        x.off(0);
        Check.due("told without the least", Rows.told(x, 0, 1), "2");
        Worlds.between(x, 1, 7, 7);
        Check.due("told with one more behind", Rows.told(x, 0, 1), "2");
        Worlds.between(x, 1, 6, 7);
        Worlds.between(x, 1, 6, 7);
        Check.due("told of two that cover them, the same, too", Rows.told(x, 0, 1), "4");
    }

    private static void ofSameOnesInTablesTheLeastStays() {
        Check.sentence("Terms 2", "(of several that are SAME the least stays)");
        Routes x = Worlds.star(4);
        for (int r = 0; r < 3; r++) {
            x.reader((r + 2) % 3);
        }
        for (int w = 0; w < 3; w++) {
            Worlds.between(x, w, 7, 7);
        }
        Check.due("told(0, 3), of its own", Rows.told(x, 0, 3), "1");
        x.deliver(1, 0, 1);
        Check.due("told(0, 3) with a greater one in a table", Rows.told(x, 0, 3), "1");
        x.deliver(2, 0, 1);
        Check.due("told(0, 3) with the least in a table", Rows.told(x, 0, 3), "0");
        Check.due("told(0, 2), without that one", Rows.told(x, 0, 2), "1");
        Check.due("told(0, 1)", Rows.told(x, 0, 1), "0");
    }

    private static void whatNothingFitsIsMeantAlone() {
        Check.sentence("Terms 2", "those that no other one of these COVERS");
        Routes x = Worlds.line(2);
        x.reader(0);
        Worlds.ranged(x, 0, NOT, LEAST, MOST);
        Check.due("told alone", Rows.told(x, 0, 1), "0");
        x.test(3, NOT, LEAST, MOST);
        x.wish(0);
        Check.due("told with its like", Rows.told(x, 0, 1), "0");
        Worlds.numbered(x, 0, 4);
        Check.due("told with one that something fits", Rows.told(x, 0, 1), "2");
    }

    private static void toldIsNoneAtFirst() {
        Check.sentence("Terms 2", "another row than the one it TOLD v latest (none at first)");
        Routes x = Worlds.desks(3);
        x.reader(0);
        x.wish(0);
        x.link(0, 1);
        Check.due("a tell of what is MEANT as they are linked", Rows.messages(x, 0, 1), "-2");
        Check.due("no tell of none", Rows.messages(x, 1, 0), "");
        x.link(1, 2);
        Check.due("no tells of none between the next", x.count(5), 1);
        Check.due("told(1, 2)", Rows.told(x, 1, 2), "");
    }

    private static void noTellOfTheSameRow() {
        Check.sentence("Terms 2", "if what is MEANT from u to v is another row than the one it TOLD v latest");
        Routes x = Worlds.line(3);
        x.reader(0);
        x.reader(0);
        Worlds.between(x, 0, 1, 9);
        x.all();
        Check.due("tells that were delivered", x.count(9), 2);
        Worlds.between(x, 1, 2, 3);
        Check.due("tells with a covered one more", x.count(6), 0);
        Worlds.between(x, 1, 1, 9);
        Check.due("tells with a same one more", x.count(6), 0);
        x.off(1);
        Check.due("tells with a covered one OFF", x.count(6), 0);
        x.reader(1);
        x.move(2, 0);
        Check.due("tells with a reader without wishes", x.count(6), 0);
        x.send(0, 1, 1, 1, 1);
        Check.due("tells with a notice", x.count(6), 0);
        x.desk();
        x.link(2, 3);
        Check.due("tells with one desk more", x.count(6), 1);
        Check.due("told(0, 1)", Rows.told(x, 0, 1), "0");
    }

    private static void aTellOfNoWishes() {
        Check.sentence("Terms 2", "another row than the one it TOLD v latest");
        Routes x = Worlds.line(2);
        x.reader(0);
        x.wish(0);
        x.all();
        x.off(0);
        Check.due("a tell with a row of none", Rows.messages(x, 0, 1), "-2");
        Check.due("told(0, 1)", Rows.told(x, 0, 1), "");
        Check.due("table(1, 0) till then", Rows.table(x, 1, 0), "0");
        Check.due("all()", x.all(), 1);
        Check.due("table(1, 0)", Rows.table(x, 1, 0), "");
        Check.due("tells that were delivered", x.count(9), 2);
    }

    private static void aTellForEachNeighbour() {
        Check.sentence("Terms 2", "for each neighbour v of u");
        Routes x = Worlds.star(12);
        x.reader(0);
        x.wish(0);
        Check.due("tells to eleven", x.count(6), 11);
        for (int d = 1; d < 12; d++) {
            Check.due("told(0, " + d + ")", Rows.told(x, 0, d), "0");
        }
        Check.due("all()", x.all(), 11);
        x.move(0, 11);
        Check.due("tells to eleven and of one", x.count(6), 12);
        Check.due("all() with one tell more from the last to each", x.all(), 22);
        for (int d = 1; d < 11; d++) {
            Check.due("table(" + d + ", 0)", Rows.table(x, d, 0), "0");
        }
        Check.due("table(11, 0)", Rows.table(x, 11, 0), "");
    }

    private static void aTellAfterEachKindOfChange() {
        Check.sentence("Terms 2", "Whenever a call, or one MESSAGE that is delivered, has changed something at u");
        Routes x = Worlds.line(4);
        x.reader(0);
        x.wish(0);
        Check.due("after wish", Rows.told(x, 0, 1), "0");
        x.deliver(0, 1, 1);
        Check.due("after a delivery", Rows.told(x, 1, 2), "0");
        Check.due("not before its delivery", Rows.told(x, 2, 3), "");
        x.deliver(1, 2, 1);
        x.cut(0, 1);
        Check.due("after cut", Rows.told(x, 1, 2), "");
        x.deliver(1, 2, 1);
        Check.due("after a delivery of none", Rows.told(x, 2, 3), "");
        x.link(0, 3);
        Check.due("after link", Rows.told(x, 0, 3), "0");
        x.move(0, 1);
        Check.due("after move, where it was", Rows.told(x, 0, 3), "");
        Check.due("after move, where it is", Rows.told(x, 1, 2), "0");
        x.off(0);
        Check.due("after off, where it is", Rows.told(x, 1, 2), "");
    }

    private static void aTellTakesTheLastOnesPlace() {
        Check.sentence("Terms 2", "if the last of these is a TELL that was not delivered, it takes its place");
        Routes x = Worlds.line(2);
        x.reader(0);
        for (int w = 0; w < 20; w++) {
            Worlds.between(x, 0, w, w);
            Check.due("one tell", Rows.messages(x, 0, 1), "-2");
        }
        Check.due("deliver", x.deliver(0, 1, MOST), 1);
        Check.due("the last wish of the row", x.table(1, 0, 19), 19);
        Check.due("no more", x.table(1, 0, 20), -1);
        Routes y = twoTellsAroundANotice();
        Check.due("behind a notice", Rows.messages(y, 0, 1), "-2 0 -2");
        Worlds.between(y, 0, 3, 3);
        Check.due("behind a notice, in the last one's place", Rows.messages(y, 0, 1), "-2 0 -2");
        y.deliver(0, 1, 1);
        Check.due("the first tell is as it was", Rows.table(y, 1, 0), "1");
        y.deliver(0, 1, 2);
        Check.due("the second one has the newest row", Rows.table(y, 1, 0), "1 2 3");
    }

    private static void aTellTakesNoPlaceBeforeANotice() {
        Check.sentence("Terms 2", "a TELL with it comes behind the MESSAGES from u to v");
        Routes x = Worlds.line(2);
        x.reader(0);
        x.reader(1);
        x.wish(1);
        x.all();
        Worlds.send(x, 0, 5);
        Worlds.between(x, 0, 1, 1);
        Check.due("behind a notice", Rows.messages(x, 0, 1), "0 -2");
        Worlds.send(x, 0, 6);
        Worlds.between(x, 0, 2, 2);
        Check.due("behind the next notice", Rows.messages(x, 0, 1), "0 -2 1 -2");
        Check.due("tells", x.count(6), 2);
    }

    private static void aTellTakesNoPlaceOfADeliveredOne() {
        Check.sentence("Terms 2", "a TELL that was not delivered");
        Routes x = Worlds.line(2);
        x.reader(0);
        Worlds.between(x, 0, 1, 1);
        x.deliver(0, 1, 1);
        Worlds.between(x, 0, 2, 2);
        Check.due("a new tell", Rows.messages(x, 0, 1), "-2");
        Check.due("the table is of the one before", Rows.table(x, 1, 0), "0");
        Check.due("deliver", x.deliver(0, 1, 1), 1);
        Check.due("the table is of the new one", Rows.table(x, 1, 0), "0 1");
        Check.due("tells that were delivered", x.count(9), 2);
    }

    private static void aTellThatTakesBackStays() {
        Check.sentence("Terms 2", "it takes its place");
        Routes x = Worlds.line(2);
        x.reader(0);
        x.wish(0);
        x.off(0);
        Check.due("a tell of none, where none was TOLD", Rows.messages(x, 0, 1), "-2");
        Check.due("told(0, 1)", Rows.told(x, 0, 1), "");
        Check.due("all()", x.all(), 1);
        Check.due("table(1, 0)", Rows.table(x, 1, 0), "");
    }

    /** Notice 0 was sent at 0 and comes there again from 2, for a reader who came to 0 since. */
    private static void droppedWhereItWasSent() {
        Check.sentence("Terms 2", "(one that was there before is dropped)");
        Routes x = Worlds.line(3);
        x.desk();
        x.reader(2);
        x.wish(0);
        x.all();
        x.send(0, 5, 5, 5, 5);
        x.deliver(0, 1, 1);
        x.cut(0, 1);
        x.link(0, 2);
        x.link(0, 3);
        x.reader(0);
        x.reader(3);
        x.wish(1);
        x.wish(2);
        x.deliver(3, 0, 1);
        x.deliver(0, 2, 1);
        x.deliver(1, 2, 2);
        Check.due("it comes from 2", Rows.messages(x, 2, 0).endsWith("0"), true);
        int came = x.count(7);
        x.all();
        Check.due("not heard there", Rows.heard(x, 1), "");
        Check.due("not passed on from there", Rows.heard(x, 2), "");
        Check.due("notices that came behind messages", x.count(7), came);
        Check.due("under way", x.count(4), 0);
        Check.due("heard by the first", Rows.heard(x, 0), "0");
    }

    /** Notice 0 was delivered at 1 and comes there again from 3. */
    private static void droppedWhereItWasDelivered() {
        Check.sentence("Terms 2", "(one that was there before is dropped)");
        Routes x = Worlds.line(4);
        x.reader(3);
        x.wish(0);
        x.all();
        x.send(0, 5, 5, 5, 5);
        x.deliver(0, 1, 1);
        x.deliver(1, 2, 1);
        x.cut(1, 2);
        x.link(3, 1);
        x.reader(1);
        x.wish(1);
        x.deliver(1, 3, 1);
        x.deliver(2, 3, 9);
        Check.due("it comes from 3", Rows.messages(x, 3, 1).endsWith("0"), true);
        int came = x.count(7);
        x.all();
        Check.due("not heard there", Rows.heard(x, 1), "");
        Check.due("notices that came behind messages", x.count(7), came);
        Check.due("notice 0 is no message", x.notice(0, 5), 0);
        x.send(0, 5, 5, 5, 5);
        x.all();
        Check.due("another notice is heard there", Rows.heard(x, 1), "1");
    }

    private static void droppedBesideOnesThatAreNot() {
        Check.sentence("Terms 2", "(one that was there before is dropped)");
        Routes x = Worlds.line(2);
        x.reader(1);
        x.wish(0);
        x.all();
        for (int k = 0; k < 3; k++) {
            x.send(0, 5, 5, 5, 5);
        }
        Check.due("deliver", x.deliver(0, 1, 3), 3);
        Check.due("notices of one content are three", Rows.heard(x, 0), "0 1 2");
    }

    private static void heardByEachReaderAtTheDesk() {
        Check.sentence("Terms 2", "HEARD by each READER at the DESK");
        Routes x = Worlds.line(2);
        x.reader(0);
        x.reader(0);
        x.reader(1);
        x.reader(0);
        Worlds.between(x, 0, 1, 5);
        Worlds.between(x, 1, 5, 9);
        Worlds.between(x, 2, 5, 5);
        Worlds.send(x, 0, 5);
        Check.due("the first", Rows.heard(x, 0), "0");
        Check.due("the second", Rows.heard(x, 1), "0");
        Check.due("one at another desk", Rows.heard(x, 2), "");
        Check.due("one without a wish", Rows.heard(x, 3), "");
        Worlds.send(x, 0, 9);
        Check.due("the first, whom it does not fit", Rows.heard(x, 0), "0");
        Check.due("the second, whom it fits", Rows.heard(x, 1), "0 1");
    }

    private static void heardByAliveWishesAlone() {
        Check.sentence("Terms 2", "that has an ALIVE WISH that it FITS");
        Routes x = Worlds.desks(1);
        x.reader(0);
        x.reader(0);
        Worlds.between(x, 0, 1, 5);
        Worlds.between(x, 0, 5, 9);
        Worlds.between(x, 1, 1, 9);
        x.off(0);
        x.off(2);
        Worlds.send(x, 0, 4);
        Worlds.send(x, 0, 5);
        Check.due("by the one that is ALIVE", Rows.heard(x, 0), "1");
        Check.due("by none that is OFF", Rows.heard(x, 1), "");
        Worlds.between(x, 1, 1, 9);
        Check.due("not by a wish that comes after it", Rows.heard(x, 1), "");
    }

    private static void heardByAReaderOnce() {
        Check.sentence("Terms 2", "and has not HEARD it");
        Routes x = Worlds.line(3);
        x.reader(0);
        x.reader(1);
        x.reader(2);
        for (int w = 0; w < 6; w++) {
            x.wish(w % 3);
        }
        x.all();
        x.send(0, 5, 5, 5, 5);
        Check.due("once by two wishes", Rows.heard(x, 0), "0");
        x.move(0, 1);
        x.deliver(0, 1, 9);
        Check.due("once at two desks", Rows.heard(x, 0), "0");
        Check.due("the other one there", Rows.heard(x, 1), "0");
        x.move(0, 2);
        x.move(1, 2);
        x.all();
        Check.due("once at three desks", Rows.heard(x, 0), "0");
        Check.due("the other one once at two", Rows.heard(x, 1), "0");
        Check.due("the last one", Rows.heard(x, 2), "0");
    }

    private static void notBackToWhereItWasDeliveredFrom() {
        Check.sentence("Terms 2", "(but the one from which it was delivered)");
        Routes x = Worlds.star(4);
        for (int d = 0; d < 4; d++) {
            x.reader(d);
            x.wish(d);
        }
        x.all();
        x.send(2, 5, 5, 5, 5);
        Check.due("2 to 0", Rows.messages(x, 2, 0), "0");
        x.deliver(2, 0, 1);
        Check.due("0 to 1", Rows.messages(x, 0, 1), "0");
        Check.due("0 to 2, from which it came", Rows.messages(x, 0, 2), "");
        Check.due("0 to 3", Rows.messages(x, 0, 3), "0");
        Check.due("the table would want it", x.table(0, 2, 0), 2);
        x.send(0, 6, 6, 6, 6);
        Check.due("what is sent goes to each neighbour", x.notice(1, 5), 3);
        Check.due("all()", x.all(), 5);
        Check.due("notices that came behind messages", x.count(7), 6);
    }

    private static void onlyToThoseInWhoseTableItFits() {
        Check.sentence("Terms 2", "in whose TABLE there is a WISH that it FITS");
        Routes x = Worlds.star(5);
        for (int d = 1; d < 5; d++) {
            x.reader(d);
        }
        Worlds.between(x, 0, 1, 4);
        Worlds.between(x, 0, 6, 9);
        Worlds.between(x, 1, 6, 9);
        x.deliver(1, 0, 9);
        x.deliver(2, 0, 9);
        Worlds.between(x, 2, 4, 4);
        Worlds.send(x, 0, 4);
        Check.due("where one of two fits", Rows.messages(x, 0, 1), "-2 0");
        Check.due("where none fits", x.message(0, 2, 1), -1);
        Check.due("where the tell was not delivered", x.message(0, 3, 1), -1);
        Check.due("where there is none", x.message(0, 4, 1), -1);
        Worlds.send(x, 0, 9);
        Check.due("where another one of two fits", x.message(0, 1, 2), 1);
        Check.due("where one fits", x.message(0, 2, 1), 1);
        Check.due("messages of it", x.notice(1, 5), 2);
        Worlds.send(x, 0, 5);
        Check.due("of what fits nowhere", x.notice(2, 5), 0);
    }

    private static void passedOnForWishesThatAreOff() {
        Check.sentence("Terms 2", "a WISH that it FITS (ALIVE or not)");
        Routes x = Worlds.line(2);
        x.reader(1);
        Worlds.between(x, 0, 1, 5);
        x.all();
        x.off(0);
        Worlds.send(x, 0, 5);
        Check.due("for one that is OFF", Rows.messages(x, 0, 1), "0");
        x.deliver(0, 1, 1);
        Check.due("but not heard", Rows.heard(x, 0), "");
        x.deliver(1, 0, 1);
        Worlds.send(x, 0, 5);
        Check.due("not once the tell was delivered", Rows.messages(x, 0, 1), "");
    }

    private static void underWayAsLongAsAMessageIsIt() {
        Check.sentence("Terms 2", "It is UNDER WAY as long as a MESSAGE is that NOTICE");
        Routes x = Worlds.star(4);
        Worlds.send(x, 0, 5);
        Check.due("one that goes nowhere", x.count(4), 0);
        for (int d = 1; d < 4; d++) {
            x.reader(d);
            x.wish(d - 1);
        }
        x.all();
        Worlds.send(x, 0, 5);
        Check.due("three messages are one notice", x.count(4), 1);
        Check.due("its messages", x.notice(1, 5), 3);
        x.deliver(0, 1, 1);
        Check.due("two are left", x.notice(1, 5), 2);
        Check.due("under way", x.count(4), 1);
        x.cut(0, 2);
        Check.due("one was lost", x.notice(1, 5), 1);
        Check.due("under way", x.count(4), 1);
        x.deliver(0, 3, 1);
        Check.due("under way no more", x.count(4), 0);
    }

    private static void needlessWithoutAReaderBehind() {
        Check.sentence("Terms 2", "if no READER at v, or at a DESK to which there is a way from v");
        Routes x = Worlds.line(4);
        x.reader(3);
        x.wish(0);
        x.all();
        Worlds.send(x, 1, 5);
        Check.due("a reader two behind", x.count(8), 0);
        x.move(0, 2);
        Worlds.send(x, 1, 5);
        Check.due("a reader at v", x.count(8), 0);
        x.off(0);
        Worlds.send(x, 1, 5);
        Check.due("a reader whose wish is OFF", x.count(8), 1);
        x.wish(0);
        Worlds.send(x, 1, 5);
        Check.due("a reader with a wish that was not told", x.count(8), 1);
        Check.due("notices that came behind messages", x.count(7), 4);
    }

    private static void needlessByWishesThatDoNotFit() {
        Check.sentence("Terms 2", "has an ALIVE WISH that it FITS");
        Routes x = Worlds.line(2);
        x.reader(1);
        x.reader(1);
        Worlds.between(x, 0, 1, 9);
        x.all();
        x.off(0);
        Worlds.between(x, 0, 4, 5);
        Worlds.between(x, 1, 6, 7);
        Worlds.send(x, 0, 3);
        Check.due("below both", x.count(8), 1);
        Worlds.send(x, 0, 4);
        Check.due("in the first", x.count(8), 1);
        Worlds.send(x, 0, 7);
        Check.due("in the second", x.count(8), 1);
        Worlds.send(x, 0, 8);
        Check.due("above both", x.count(8), 2);
    }

    private static void needlessByReadersOnThisSide() {
        Check.sentence("Terms 2", "a way from v that does not go by u");
        Routes x = Worlds.line(4);
        x.reader(3);
        x.wish(0);
        x.all();
        x.off(0);
        x.reader(1);
        x.reader(0);
        x.wish(1);
        x.wish(2);
        Worlds.send(x, 1, 5);
        Check.due("readers at u and behind it alone", x.count(8), 1);
        Check.due("heard at u", Rows.heard(x, 1), "0");
        x.move(2, 3);
        Worlds.send(x, 1, 5);
        Check.due("a reader that came behind v", x.count(8), 1);
    }

    private static void needlessByReadersWithoutAWay() {
        Check.sentence("Terms 2", "a DESK to which there is a way from v");
        Routes x = Worlds.line(4);
        x.reader(3);
        x.wish(0);
        x.all();
        x.cut(2, 3);
        Worlds.send(x, 1, 5);
        Check.due("cut off behind v", x.count(8), 1);
        x.link(3, 0);
        Worlds.send(x, 1, 5);
        Check.due("linked behind u", x.count(8), 2);
        x.cut(3, 0);
        x.link(2, 3);
        x.all();
        Worlds.send(x, 1, 5);
        Check.due("linked behind v again", x.count(8), 2);
    }

    private static void needlessIsOfThen() {
        Check.sentence("Terms 2", "is NEEDLESS then");
        Routes x = Worlds.line(2);
        x.reader(1);
        x.wish(0);
        x.all();
        Worlds.send(x, 0, 5);
        x.off(0);
        Check.due("wanted as it came", x.count(8), 0);
        Worlds.send(x, 0, 5);
        x.wish(0);
        x.all();
        Check.due("not wanted as it came", x.count(8), 1);
        Check.due("but heard", Rows.heard(x, 0), "0 1");
    }

    private static void needlessAtEachDesk() {
        Check.sentence("Terms 2", "A NOTICE that comes behind the MESSAGES from u to v is NEEDLESS then");
        Routes x = Worlds.line(4);
        x.reader(3);
        x.wish(0);
        x.all();
        x.off(0);
        Worlds.send(x, 0, 5);
        Check.due("from 0 to 1", x.count(8), 1);
        x.deliver(0, 1, 1);
        Check.due("from 1 to 2", x.count(8), 2);
        x.wish(0);
        x.deliver(1, 2, 1);
        Check.due("from 2 to 3, wanted there since", x.count(8), 2);
        Check.due("notices that came behind messages", x.count(7), 3);
    }
}
