/** Promises 11 to 13, 16 to 20 and 22: send, deliver, all, table, told, message, heard, notice, count. */
final class RoutesTest {
    private RoutesTest() {
    }

    public static void main(String[] args) {
        toldIsWhatNoOtherCovers();
        ofSameWishesTheLeastIsTold();
        coveredWishesAreToldOnceUncovered();
        nothingIsToldBackToWhereItCameFrom();
        aTellTakesTheLastTellsPlace();
        aTellComesBehindANotice();
        aTellMayTakeBackWhatWasNotDelivered();
        aWishInTwoTablesIsToldOnce();
        tablesKeepWishesThatAreOff();
        sendHearsAndPassesOn();
        sendStopsAtSixtyUnderWay();
        noticesComeInOrder();
        noticeThatWasThereIsDropped();
        noReaderHearsTwice();
        deliverCountsWhatItDelivers();
        deliverRefuses();
        allTakesTheLeastFirst();
        needlessIsCountedThen();
        needlessLooksBehindTheNeighbour();
        noticeTellsFieldsDeskAndMessages();
        rowsEndWithNone();
        countAnswersNoneBeyond();
        Check.end();
    }

    private static void toldIsWhatNoOtherCovers() {
        Routes x = Worlds.line(2);
        x.reader(0);
        x.reader(0);
        Worlds.between(x, 0, 1, 5);
        Worlds.between(x, 1, 4, 9);
        Worlds.between(x, 0, 2, 3);
        Check.due("told", Rows.told(x, 0, 1), "0 1");
        Worlds.between(x, 1, 0, 6);
        Check.due("told with a wider one", Rows.told(x, 0, 1), "1 3");
        x.wish(0);
        Check.due("told with ANY", Rows.told(x, 0, 1), "4");
        Check.due("told turned", Rows.told(x, 1, 0), "");
        x.off(4);
        Check.due("told after off", Rows.told(x, 0, 1), "1 3");
    }

    private static void ofSameWishesTheLeastIsTold() {
        Routes x = Worlds.line(2);
        x.reader(0);
        Worlds.between(x, 0, 3, 5);
        x.among(0, 4);
        x.among(0, 3);
        x.among(0, 5);
        x.wish(0);
        Worlds.between(x, 0, 3, 5);
        Worlds.between(x, 0, 8, 8);
        Check.due("told", Rows.told(x, 0, 1), "0 3");
        x.off(0);
        Check.due("told without the least", Rows.told(x, 0, 1), "1 3");
        x.wish(0);
        Check.due("told with one above all", Rows.told(x, 0, 1), "4");
    }

    private static void coveredWishesAreToldOnceUncovered() {
        Routes x = Worlds.line(3);
        x.reader(0);
        x.reader(1);
        Worlds.between(x, 0, 0, 9);
        x.all();
        Worlds.between(x, 1, 2, 3);
        Check.due("told(1, 2)", Rows.told(x, 1, 2), "0");
        Check.due("told(1, 0)", Rows.told(x, 1, 0), "1");
        x.off(0);
        x.deliver(0, 1, 1);
        Check.due("told(1, 2) after off", Rows.told(x, 1, 2), "1");
        Check.due("all()", x.all(), 2);
        Check.due("table(2, 1)", Rows.table(x, 2, 1), "1");
    }

    private static void nothingIsToldBackToWhereItCameFrom() {
        Routes x = Worlds.line(3);
        x.reader(0);
        x.wish(0);
        Check.due("all()", x.all(), 2);
        Check.due("told(1, 0)", Rows.told(x, 1, 0), "");
        Check.due("told(2, 1)", Rows.told(x, 2, 1), "");
        Check.due("table(1, 0)", Rows.table(x, 1, 0), "0");
        Check.due("table(0, 1)", Rows.table(x, 0, 1), "");
    }

    private static void aTellTakesTheLastTellsPlace() {
        Routes x = Worlds.line(2);
        x.reader(0);
        Worlds.between(x, 0, 1, 1);
        Worlds.between(x, 0, 2, 2);
        Worlds.between(x, 0, 3, 3);
        Check.due("messages", Rows.messages(x, 0, 1), "-2");
        Check.due("deliver", x.deliver(0, 1, 9), 1);
        Check.due("table", Rows.table(x, 1, 0), "0 1 2");
        Check.due("tells delivered", x.count(9), 1);
        Worlds.between(x, 0, 4, 4);
        Check.due("messages after delivery", Rows.messages(x, 0, 1), "-2");
        Check.due("table till delivered", Rows.table(x, 1, 0), "0 1 2");
    }

    private static void aTellComesBehindANotice() {
        Routes x = Worlds.line(2);
        x.reader(0);
        x.reader(1);
        x.wish(1);
        x.all();
        Worlds.between(x, 0, 1, 1);
        x.send(0, 7, 7, 7, 7);
        Worlds.between(x, 0, 2, 2);
        Worlds.between(x, 0, 3, 3);
        Check.due("messages", Rows.messages(x, 0, 1), "-2 0 -2");
        Check.due("messages in all", x.count(5), 3);
        Check.due("tells", x.count(6), 2);
        Check.due("told", Rows.told(x, 0, 1), "1 2 3");
        x.deliver(0, 1, 1);
        Check.due("the first tell has its own row", Rows.table(x, 1, 0), "1");
        x.deliver(0, 1, 1);
        Check.due("table behind the notice", Rows.table(x, 1, 0), "1");
        Check.due("heard", Rows.heard(x, 1), "0");
        x.deliver(0, 1, 1);
        Check.due("table at last", Rows.table(x, 1, 0), "1 2 3");
    }

    private static void aTellMayTakeBackWhatWasNotDelivered() {
        Routes x = Worlds.line(2);
        x.reader(0);
        x.wish(0);
        x.off(0);
        Check.due("told", Rows.told(x, 0, 1), "");
        Check.due("messages", Rows.messages(x, 0, 1), "-2");
        Check.due("all()", x.all(), 1);
        Check.due("table", Rows.table(x, 1, 0), "");
        Check.due("tells delivered", x.count(9), 1);
    }

    private static void aWishInTwoTablesIsToldOnce() {
        Routes x = new Routes();
        for (int d = 0; d < 4; d++) {
            x.desk();
        }
        x.link(3, 0);
        x.link(3, 1);
        x.link(3, 2);
        x.reader(0);
        x.wish(0);
        x.all();
        x.move(0, 1);
        x.deliver(1, 3, 1);
        Check.due("table(3, 0)", Rows.table(x, 3, 0), "0");
        Check.due("table(3, 1)", Rows.table(x, 3, 1), "0");
        Check.due("told(3, 2)", Rows.told(x, 3, 2), "0");
        Check.due("told(3, 0)", Rows.told(x, 3, 0), "0");
        x.deliver(0, 3, 1);
        Check.due("told(3, 2) afterwards", Rows.told(x, 3, 2), "0");
        Check.due("told(3, 1)", Rows.told(x, 3, 1), "");
    }

    private static void tablesKeepWishesThatAreOff() {
        Routes x = Worlds.line(3);
        x.reader(0);
        x.reader(1);
        Worlds.between(x, 0, 0, 9);
        x.all();
        x.off(0);
        Worlds.between(x, 1, 2, 3);
        Check.due("told(1, 2) while one OFF covers", Rows.told(x, 1, 2), "0");
        x.send(2, 5, 0, 0, 0);
        Check.due("passed on for one OFF", Rows.messages(x, 2, 1), "0");
        Check.due("needless", x.count(8), 1);
    }

    private static void sendHearsAndPassesOn() {
        Routes x = new Routes();
        for (int d = 0; d < 5; d++) {
            x.desk();
        }
        for (int d = 1; d < 5; d++) {
            x.link(0, d);
            x.reader(d);
        }
        x.reader(0);
        Worlds.between(x, 0, 1, 5);
        Worlds.between(x, 1, 6, 9);
        Worlds.between(x, 2, 3, 7);
        Worlds.between(x, 4, 4, 4);
        x.all();
        Check.due("send(1)", x.send(1, 4, 0, 0, 0), 0);
        Check.due("heard where it was sent", Rows.heard(x, 0), "0");
        Check.due("1 to 0", Rows.messages(x, 1, 0), "0");
        Check.due("deliver", x.deliver(1, 0, 1), 1);
        Check.due("heard in the middle", Rows.heard(x, 4), "0");
        Check.due("not back", Rows.messages(x, 0, 1), "");
        Check.due("not to a reader of others", Rows.messages(x, 0, 2), "");
        Check.due("to one who wants it", Rows.messages(x, 0, 3), "0");
        Check.due("not to one without wishes", Rows.messages(x, 0, 4), "");
        Check.due("all()", x.all(), 1);
        Check.due("heard at the end", Rows.heard(x, 2), "0");
        Check.due("not heard", Rows.heard(x, 1), "");
        Check.due("came behind messages", x.count(7), 2);
        Check.due("send(0)", x.send(0, 7, 0, 0, 0), 1);
        Check.due("two ways", x.notice(1, 5), 2);
        Check.due("under way", x.count(4), 1);
        Check.due("send(5)", x.send(5, 7, 0, 0, 0), -2);
        Check.due("send(-1)", x.send(-1, 7, 0, 0, 0), -2);
        Check.due("notices", x.count(3), 2);
    }

    private static void sendStopsAtSixtyUnderWay() {
        Routes x = Worlds.line(2);
        x.reader(1);
        x.reader(0);
        Worlds.between(x, 0, 1, 1);
        x.all();
        for (int k = 0; k < 60; k++) {
            Check.due("send()", x.send(0, 1, k, 0, 0), k);
            Worlds.between(x, 1, 10 + k, 10 + k);
        }
        Check.due("under way", x.count(4), 60);
        Check.due("messages", x.count(5), 120);
        Check.due("send beyond 60", x.send(0, 1, 0, 0, 0), -8);
        Check.due("send of what nobody wants beyond 60", x.send(0, 5, 0, 0, 0), -8);
        Check.due("send beyond 60 at no desk", x.send(2, 5, 0, 0, 0), -2);
        Check.due("notices", x.count(3), 60);
        Check.due("the last message", x.message(0, 1, 119), -2);
        Check.due("the last notice", x.message(0, 1, 118), 59);
        Check.due("beyond the last", x.message(0, 1, 120), -1);
        x.deliver(0, 1, 1);
        Check.due("send after one was delivered", x.send(0, 1, 0, 0, 0), 60);
        Check.due("send beyond 60 again", x.send(0, 1, 0, 0, 0), -8);
        Worlds.between(x, 1, 5, 5);
        Check.due("messages in order", Rows.messages(x, 0, 1).startsWith("-2 1 -2 2 "), true);
        Check.due("all()", x.all(), 121);
        Check.due("heard last", x.heard(0, 60), 60);
        Check.due("heard beyond", x.heard(0, 61), -1);
        Check.due("send with none under way", x.send(0, 1, 0, 0, 0), 61);
    }

    private static void noticesComeInOrder() {
        Routes x = Worlds.line(3);
        x.reader(2);
        x.wish(0);
        x.all();
        x.send(0, 1, 0, 0, 0);
        x.send(1, 2, 0, 0, 0);
        x.send(2, 3, 0, 0, 0);
        Check.due("1 to 2", Rows.messages(x, 1, 2), "1");
        x.deliver(0, 1, 1);
        Check.due("1 to 2, one behind the other", Rows.messages(x, 1, 2), "1 0");
        x.deliver(1, 2, 1);
        x.send(2, 4, 0, 0, 0);
        x.deliver(1, 2, 1);
        Check.due("heard as they came", Rows.heard(x, 0), "2 1 3 0");
    }

    private static void noticeThatWasThereIsDropped() {
        Routes x = Worlds.line(3);
        x.reader(2);
        x.reader(0);
        x.wish(0);
        x.all();
        x.send(0, 1, 1, 1, 1);
        x.deliver(0, 1, 1);
        x.wish(1);
        x.cut(0, 1);
        x.link(0, 2);
        x.deliver(0, 2, 1);
        Check.due("1 to 2", Rows.messages(x, 1, 2), "0");
        x.deliver(1, 2, 1);
        Check.due("2 to 0", x.message(2, 0, x.message(2, 0, 0) == -2 ? 1 : 0), 0);
        x.desk();
        x.link(0, 3);
        x.reader(3);
        x.wish(2);
        x.all();
        Check.due("dropped where it was before", Rows.heard(x, 1), "");
        Check.due("not passed on from there", Rows.heard(x, 2), "");
        Check.due("under way", x.count(4), 0);
        Check.due("came behind messages", x.count(7), 3);
    }

    private static void noReaderHearsTwice() {
        Routes x = Worlds.line(2);
        x.reader(0);
        x.reader(1);
        x.wish(0);
        x.wish(0);
        x.wish(1);
        x.all();
        x.send(0, 1, 1, 1, 1);
        Check.due("heard once by two wishes", Rows.heard(x, 0), "0");
        x.move(0, 1);
        x.all();
        Check.due("not again at another desk", Rows.heard(x, 0), "0");
        Check.due("heard there by another reader", Rows.heard(x, 1), "0");
    }

    private static void deliverCountsWhatItDelivers() {
        Routes x = Worlds.line(2);
        x.reader(1);
        x.wish(0);
        Check.due("deliver of none", x.deliver(1, 0, 0), 0);
        Check.due("messages", x.count(5), 1);
        Check.due("deliver the other way", x.deliver(0, 1, 5), 0);
        Check.due("deliver beyond what there is", x.deliver(1, 0, Integer.MAX_VALUE), 1);
        for (int k = 0; k < 5; k++) {
            x.send(0, k, 0, 0, 0);
        }
        Check.due("deliver two", x.deliver(0, 1, 2), 2);
        Check.due("heard two", Rows.heard(x, 0), "0 1");
        Check.due("left", Rows.messages(x, 0, 1), "2 3 4");
        Check.due("deliver the rest", x.deliver(0, 1, 3), 3);
        Check.due("deliver none left", x.deliver(0, 1, 3), 0);
    }

    private static void deliverRefuses() {
        Routes x = Worlds.line(3);
        Check.due("deliver(0, 3, 1)", x.deliver(0, 3, 1), -2);
        Check.due("deliver(-1, 0, 1)", x.deliver(-1, 0, 1), -2);
        Check.due("deliver(0, 1, -1)", x.deliver(0, 1, -1), -2);
        Check.due("deliver(0, 2, -1)", x.deliver(0, 2, -1), -2);
        Check.due("deliver(0, 1, least)", x.deliver(0, 1, Integer.MIN_VALUE), -2);
        Check.due("deliver(0, 2, 1)", x.deliver(0, 2, 1), -5);
        Check.due("deliver(1, 1, 1)", x.deliver(1, 1, 1), -5);
        Check.due("deliver(2, 0, 0)", x.deliver(2, 0, 0), -5);
    }

    /** Whether the notice or the tell comes to the desk in the middle first is told by who hears. */
    private static void allTakesTheLeastFirst() {
        Routes x = wishAtTheMiddle();
        x.reader(2);
        x.wish(1);
        x.send(0, 5, 5, 5, 5);
        Check.due("all() with the notice first", x.all(), 2);
        Check.due("heard in the middle", Rows.heard(x, 0), "0");
        Check.due("not passed on before the tell", Rows.heard(x, 1), "");

        Routes y = wishAtTheMiddle();
        y.reader(0);
        y.wish(1);
        y.send(2, 5, 5, 5, 5);
        Check.due("all() with the tell first", y.all(), 3);
        Check.due("passed on behind the tell", Rows.heard(y, 1), "0");
        Check.due("nothing is left", y.count(5), 0);
        Check.due("all() with none", y.all(), 0);
    }

    private static Routes wishAtTheMiddle() {
        Routes x = Worlds.line(3);
        x.reader(1);
        x.wish(0);
        x.all();
        return x;
    }

    private static void needlessIsCountedThen() {
        Routes x = Worlds.line(2);
        x.reader(1);
        Worlds.between(x, 0, 1, 5);
        x.all();
        x.send(0, 3, 0, 0, 0);
        x.off(0);
        Check.due("not needless as it came", x.count(8), 0);
        x.send(0, 4, 0, 0, 0);
        Check.due("needless after off", x.count(8), 1);
        x.wish(0);
        Check.due("needless stays", x.count(8), 1);
        x.send(0, 4, 0, 0, 0);
        Check.due("wanted by another wish", x.count(8), 1);
        x.reader(0);
        x.move(0, 0);
        x.send(0, 4, 0, 0, 0);
        Check.due("needless after the move", x.count(8), 2);
        Check.due("came behind messages", x.count(7), 4);
    }

    private static void needlessLooksBehindTheNeighbour() {
        Routes x = Worlds.line(4);
        x.reader(3);
        x.reader(0);
        x.wish(0);
        x.all();
        x.wish(1);
        x.send(1, 1, 1, 1, 1);
        Check.due("wanted two desks behind", x.count(8), 0);
        x.move(0, 0);
        x.send(1, 1, 1, 1, 1);
        Check.due("wanted before the sender alone", x.count(8), 1);
        x.cut(2, 3);
        x.move(0, 3);
        x.send(1, 1, 1, 1, 1);
        Check.due("no way to the reader", x.count(8), 2);
        x.move(0, 2);
        x.send(1, 1, 1, 1, 1);
        Check.due("wanted at the neighbour", x.count(8), 2);
    }

    private static void noticeTellsFieldsDeskAndMessages() {
        Routes x = Worlds.line(3);
        x.reader(0);
        x.reader(2);
        x.wish(0);
        x.wish(1);
        x.all();
        x.send(1, 11, -12, Integer.MIN_VALUE, Integer.MAX_VALUE);
        Check.due("field 0", x.notice(0, 0), 11);
        Check.due("field 1", x.notice(0, 1), -12);
        Check.due("field 2", x.notice(0, 2), Integer.MIN_VALUE);
        Check.due("field 3", x.notice(0, 3), Integer.MAX_VALUE);
        Check.due("desk", x.notice(0, 4), 1);
        Check.due("messages", x.notice(0, 5), 2);
        x.deliver(1, 2, 1);
        Check.due("messages after one", x.notice(0, 5), 1);
        x.deliver(1, 0, 1);
        Check.due("messages after both", x.notice(0, 5), 0);
        Check.due("desk stays", x.notice(0, 4), 1);
        for (int what : new int[] {-1, 6, 7, Integer.MIN_VALUE, Integer.MAX_VALUE}) {
            Check.due("notice(0, " + what + ")", x.notice(0, what), 0);
        }
        Check.due("notice(1, 4)", x.notice(1, 4), 0);
        Check.due("notice(-1, 4)", x.notice(-1, 4), 0);
    }

    private static void rowsEndWithNone() {
        Routes x = Worlds.line(2);
        x.reader(0);
        Worlds.between(x, 0, 1, 1);
        Worlds.between(x, 0, 3, 3);
        x.all();
        x.send(1, 1, 0, 0, 0);
        int[][] places = {{-1, 0, 0}, {0, -1, 0}, {2, 0, 0}, {0, 2, 0}, {0, 0, 0}, {1, 1, 0}};
        for (int[] p : places) {
            String args = "(" + p[0] + ", " + p[1] + ", " + p[2] + ")";
            Check.due("table" + args, x.table(p[0], p[1], p[2]), -1);
            Check.due("told" + args, x.told(p[0], p[1], p[2]), -1);
            Check.due("message" + args, x.message(p[0], p[1], p[2]), -1);
        }
        for (int i : new int[] {-1, 2, 300, Integer.MIN_VALUE, Integer.MAX_VALUE}) {
            Check.due("table(1, 0, " + i + ")", x.table(1, 0, i), -1);
            Check.due("told(0, 1, " + i + ")", x.told(0, 1, i), -1);
            Check.due("message(1, 0, " + i + ")", x.message(1, 0, i), -1);
            Check.due("heard(0, " + i + ")", x.heard(0, i), -1);
        }
        Check.due("table(1, 0, 1)", x.table(1, 0, 1), 1);
        Check.due("told(0, 1, 1)", x.told(0, 1, 1), 1);
        Check.due("message(1, 0, 0)", x.message(1, 0, 0), 0);
        Check.due("heard(1, 0)", x.heard(1, 0), -1);
        Check.due("heard(-1, 0)", x.heard(-1, 0), -1);
    }

    private static void countAnswersNoneBeyond() {
        Routes x = Worlds.line(3);
        x.reader(0);
        x.wish(0);
        x.off(0);
        x.wish(0);
        x.all();
        x.send(2, 0, 0, 0, 0);
        x.send(0, 0, 0, 0, 0);
        int[] due = {3, 1, 2, 2, 1, 1, 0, 1, 0, 2, 2};
        for (int what = 0; what < due.length; what++) {
            Check.due("count(" + what + ")", x.count(what), due[what]);
        }
        for (int what : new int[] {-1, 11, Integer.MIN_VALUE, Integer.MAX_VALUE}) {
            Check.due("count(" + what + ")", x.count(what), -1);
        }
    }
}
