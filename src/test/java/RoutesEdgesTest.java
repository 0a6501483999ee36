/** The boundary cases of promises 11 to 13, 16 to 20 and 22, a sentence of the document at a time. */
final class RoutesEdgesTest {
    private static final int LEAST = Worlds.LEAST;
    private static final int MOST = Worlds.MOST;

    private RoutesEdgesTest() {
    }

    public static void main(String[] args) {
        sendAtTheFirstAndTheLastDesk();
        sendAtNoSuchDesk();
        sendBeyondSixtyUnderWay();
        sendCountsNoticesNotMessages();
        sendCountsOnlyThoseUnderWay();
        sendBeyondSixtyAtNoSuchDesk();
        sendAsOftenAsCallsAllow();
        sendBeyondSixHundred();
        deliverAtNoSuchDesk();
        deliverBelowNone();
        deliverOfDesksThatAreNotLinked();
        deliverNoneOneAllAndMore();
        deliverOneWayOnly();
        allWithNone();
        allTakesTheLeastDeskFirst();
        allTakesThoseThatComeMeanwhile();
        allOverAFullTree();
        tableOfNone();
        tableOfManyWishes();
        toldOfNone();
        toldStaysAsDelivered();
        messageOfNone();
        messageIsANoticeOrATell();
        messagesAsManyAsThereMayBe();
        heardOfNone();
        heardInTheirOrder();
        noticeOfNone();
        noticeForAnotherWhat();
        noticeFieldsAndDesk();
        noticeOfNoOneAndElevenMessages();
        countForAnotherWhat();
        countFromNoneOn();
        countAtTheMost();
        Check.end();
    }

    /** Notices from 0 to 1 are heard by reader 0. */
    private static Routes listening() {
        Routes x = Worlds.line(2);
        x.reader(1);
        x.wish(0);
        x.all();
        return x;
    }

    private static void sendAtTheFirstAndTheLastDesk() {
        Check.sentence("Promise 11", "A NOTICE is sent at a DESK: its number");
        Routes x = Worlds.desks(12);
        Check.due("send(0)", x.send(0, LEAST, MOST, 0, -1), 0);
        Check.due("send(11)", x.send(11, 0, 0, 0, 0), 1);
        Check.due("send(0) again", x.send(0, LEAST, MOST, 0, -1), 2);
        Check.due("notices", x.count(3), 3);
    }

    private static void sendAtNoSuchDesk() {
        Check.sentence("Promise 11", "-2: there is no such DESK");
        for (int desks : new int[] {0, 1, 12}) {
            Routes x = Worlds.desks(desks);
            for (int d : Worlds.outside(desks)) {
                Check.due("send(" + d + ") of " + desks, x.send(d, 0, 0, 0, 0), -2);
            }
            Check.due("notices", x.count(3), 0);
            Check.due("send at the last", x.send(desks - 1, 0, 0, 0, 0), desks == 0 ? -2 : 0);
        }
    }

    private static void sendBeyondSixtyUnderWay() {
        Check.sentence("Promise 11", "-8: 60 are UNDER WAY");
        Routes x = listening();
        for (int k = 0; k < 60; k++) {
            Check.due("under way", x.count(4), k);
            Check.due("send", Worlds.send(x, 0, k), k);
        }
        Check.due("send beyond 60", Worlds.send(x, 0, 60), -8);
        Check.due("send beyond 60 where nobody else listens", Worlds.send(x, 1, 60), -8);
        Check.due("notices", x.count(3), 60);
        x.deliver(0, 1, 1);
        Check.due("under way, one less", x.count(4), 59);
        Check.due("send again", Worlds.send(x, 0, 60), 60);
        Check.due("send beyond 60 again", Worlds.send(x, 0, 61), -8);
        x.all();
        Check.due("send after all", Worlds.send(x, 0, 61), 61);
    }

    private static void sendCountsNoticesNotMessages() {
        Check.sentence("Promise 11", "-8: 60 are UNDER WAY");
        Routes x = Worlds.star(4);
        for (int d = 1; d < 4; d++) {
            x.reader(d);
            x.wish(d - 1);
        }
        x.all();
        for (int k = 0; k < 60; k++) {
            Check.due("send", Worlds.send(x, 0, k), k);
        }
        Check.due("messages", x.count(5), 180);
        Check.due("under way", x.count(4), 60);
        Check.due("send beyond 60", Worlds.send(x, 0, 60), -8);
        x.deliver(0, 1, 60);
        x.deliver(0, 2, 60);
        Check.due("messages, one of each", x.count(5), 60);
        Check.due("send with one message of each left", Worlds.send(x, 0, 60), -8);
        x.deliver(0, 3, 1);
        Check.due("send with 59 left", Worlds.send(x, 0, 60), 60);
    }

    private static void sendCountsOnlyThoseUnderWay() {
        Check.sentence("Promise 11", "-8: 60 are UNDER WAY");
        Routes x = listening();
        for (int k = 0; k < 100; k++) {
            Check.due("send of what stays", Worlds.send(x, 1, k), k);
        }
        for (int k = 100; k < 160; k++) {
            Check.due("send of what goes", Worlds.send(x, 0, k), k);
        }
        Check.due("send beyond 60", Worlds.send(x, 0, 160), -8);
        Check.due("send of what would stay", Worlds.send(x, 1, 160), -8);
        Worlds.between(x, 0, 1, 1);
        Check.due("a wish more changes nothing of that", Worlds.send(x, 0, 160), -8);
    }

    private static void sendBeyondSixtyAtNoSuchDesk() {
        Check.sentence("Promise 11", "-2: there is no such DESK; -8: 60 are UNDER WAY");
        Routes x = listening();
        for (int k = 0; k < 60; k++) {
            Worlds.send(x, 0, k);
        }
        for (int d : Worlds.outside(2)) {
            Check.due("send(" + d + ")", Worlds.send(x, d, 60), -2);
        }
    }

    private static void sendAsOftenAsCallsAllow() {
        Check.sentence("Promise 11", "or 600 were sent");
        Routes x = Worlds.desks(1);
        for (int k = 0; k < 510; k++) {
            Check.due("send", x.send(0, k, 0, 0, 0), k);
        }
        Check.due("the last one's field", x.notice(509, 0), 509);
    }

    /** 600 are beyond 512 calls, where answers are free; but what is kept must have its end there, too. */
    private static void sendBeyondSixHundred() {
        Check.sentence("Promise 11", "-8: 60 are UNDER WAY, or 600 were sent");
        WishRoutes x = new WishRoutes();
        x.desk();
        x.reader(0);
        x.wish(0);
        for (int k = 0; k < 600; k++) {
            Check.due("send", x.send(0, k, 0, 0, 0), k);
        }
        Check.due("the 601st send", x.send(0, 0, 0, 0, 0), -8);
        Check.due("the 601st send at no desk", x.send(1, 0, 0, 0, 0), -2);
        Check.due("notices", x.count(3), 600);
        Check.due("the last that was heard", x.heard(0, 599), 599);
        Check.due("none beyond", x.heard(0, 600), -1);
    }

    private static void deliverAtNoSuchDesk() {
        Check.sentence("Promise 12", "-2: there is no such DESK");
        for (int desks : new int[] {2, 12}) {
            Routes x = Worlds.line(desks);
            for (int d : Worlds.outside(desks)) {
                Check.due("deliver(" + d + ", 0, 1) of " + desks, x.deliver(d, 0, 1), -2);
                Check.due("deliver(0, " + d + ", 1) of " + desks, x.deliver(0, d, 1), -2);
                Check.due("deliver(" + d + ", itself, 0) of " + desks, x.deliver(d, d, 0), -2);
                Check.due("deliver(" + d + ", 0, -1) of " + desks, x.deliver(d, 0, -1), -2);
            }
            Check.due("deliver of the last two", x.deliver(desks - 1, desks - 2, 1), 0);
        }
    }

    private static void deliverBelowNone() {
        Check.sentence("Promise 12", "or n is below 0");
        Routes x = listening();
        Worlds.send(x, 0, 1);
        for (int n : new int[] {-1, -2, LEAST + 1, LEAST}) {
            Check.due("deliver(0, 1, " + n + ")", x.deliver(0, 1, n), -2);
            Check.due("deliver(1, 1, " + n + "), not linked, too", x.deliver(1, 1, n), -2);
        }
        Check.due("messages", x.count(5), 1);
        Check.due("deliver(0, 1, 0)", x.deliver(0, 1, 0), 0);
        Check.due("messages", x.count(5), 1);
    }

    private static void deliverOfDesksThatAreNotLinked() {
        Check.sentence("Promise 12", "-5: they are not LINKED");
        Routes x = Worlds.line(3);
        int[][] pairs = {{0, 2}, {2, 0}, {0, 0}, {1, 1}, {2, 2}};
        for (int[] p : pairs) {
            for (int n : new int[] {0, 1, MOST}) {
                Check.due("deliver(" + p[0] + ", " + p[1] + ", " + n + ")", x.deliver(p[0], p[1], n), -5);
            }
        }
        Check.due("deliver(0, 1, 1)", x.deliver(0, 1, 1), 0);
        x.cut(0, 1);
        Check.due("deliver(0, 1, 1) after cut", x.deliver(0, 1, 1), -5);
        Check.due("deliver(1, 0, 0) after cut", x.deliver(1, 0, 0), -5);
    }

    private static void deliverNoneOneAllAndMore() {
        Check.sentence("Promise 12", "The next n MESSAGES from u to v are delivered");
        Routes x = listening();
        Check.due("deliver of none that is there", x.deliver(0, 1, 1), 0);
        for (int k = 0; k < 12; k++) {
            Worlds.send(x, 0, k);
        }
        Check.due("deliver none", x.deliver(0, 1, 0), 0);
        Check.due("heard", x.heard(0, 0), -1);
        Check.due("deliver one", x.deliver(0, 1, 1), 1);
        Check.due("heard", Rows.heard(x, 0), "0");
        Check.due("deliver two", x.deliver(0, 1, 2), 2);
        Check.due("heard", Rows.heard(x, 0), "0 1 2");
        Check.due("messages", x.count(5), 9);
        Check.due("deliver all but one", x.deliver(0, 1, 8), 8);
        Check.due("the last", Rows.messages(x, 0, 1), "11");
        Worlds.send(x, 0, 12);
        Check.due("deliver one more than there are", x.deliver(0, 1, 3), 2);
        Worlds.send(x, 0, 13);
        Check.due("deliver the greatest number", x.deliver(0, 1, MOST), 1);
        Worlds.send(x, 0, 14);
        Worlds.send(x, 0, 15);
        Check.due("deliver as many as there are", x.deliver(0, 1, 2), 2);
        Check.due("messages", x.count(5), 0);
    }

    private static void deliverOneWayOnly() {
        Check.sentence("Promise 12", "MESSAGES from u to v");
        Routes x = Worlds.line(3);
        for (int d = 0; d < 3; d++) {
            x.reader(d);
            x.wish(d);
        }
        x.all();
        x.send(1, 1, 1, 1, 1);
        x.send(0, 2, 2, 2, 2);
        Check.due("deliver(0, 1, 9)", x.deliver(0, 1, 9), 1);
        Check.due("1 to 0 stays", Rows.messages(x, 1, 0), "0");
        Check.due("1 to 2 stays, with what came", Rows.messages(x, 1, 2), "0 1");
        Check.due("deliver(1, 2, 9)", x.deliver(1, 2, 9), 2);
        Check.due("1 to 0 stays", Rows.messages(x, 1, 0), "0");
    }

    private static void allWithNone() {
        Check.sentence("Promise 13", "how many were");
        Routes x = new Routes();
        Check.due("all() without desks", x.all(), 0);
        x.desk();
        Check.due("all() with one desk", x.all(), 0);
        x.desk();
        x.link(0, 1);
        Check.due("all() without messages", x.all(), 0);
        x.reader(0);
        x.wish(0);
        Check.due("all() with one", x.all(), 1);
        Check.due("all() again", x.all(), 0);
    }

    /** What 2 hears of shows whether the notice from 0 or the tell from 2 came to 1 first. */
    private static void allTakesTheLeastDeskFirst() {
        Check.sentence("Promise 13", "with the least u");
        Routes x = Worlds.line(3);
        x.reader(1);
        x.wish(0);
        x.all();
        x.reader(2);
        x.wish(1);
        x.send(0, 5, 5, 5, 5);
        Check.due("all() with the notice first", x.all(), 2);
        Check.due("not passed on", Rows.heard(x, 1), "");
        Routes y = Worlds.line(3);
        y.reader(1);
        y.wish(0);
        y.all();
        y.reader(0);
        y.wish(1);
        y.send(2, 5, 5, 5, 5);
        Check.due("all() with the tell first", y.all(), 3);
        Check.due("passed on", Rows.heard(y, 1), "0");
    }

    private static void allTakesThoseThatComeMeanwhile() {
        Check.sentence("Promise 13", "As long as there is one");
        Routes x = Worlds.line(12);
        x.reader(11);
        x.wish(0);
        Check.due("messages", x.count(5), 1);
        Check.due("all() of a tell along the line", x.all(), 11);
        x.send(0, 1, 1, 1, 1);
        Check.due("all() of a notice along the line", x.all(), 11);
        Check.due("heard", Rows.heard(x, 0), "0");
        Check.due("messages", x.count(5), 0);
    }

    private static void allOverAFullTree() {
        Check.sentence("Promise 13", "of all LINKS that have one");
        Routes x = Worlds.star(12);
        for (int d = 0; d < 12; d++) {
            x.reader(d);
            Worlds.between(x, d, d, d);
        }
        Check.due("messages", x.count(5), 22);
        x.all();
        Check.due("messages after all()", x.count(5), 0);
        Check.due("the middle's table of the last", Rows.table(x, 0, 11), "11");
        Check.due("the last one's table of the middle", Rows.table(x, 11, 0), "0 1 2 3 4 5 6 7 8 9 10");
    }

    /** The tell of 1's two wishes came to 0, not to 2; what 0 had told 1 it took back. */
    private static Routes rows() {
        Routes x = Worlds.line(3);
        x.reader(1);
        x.reader(0);
        x.wish(1);
        x.all();
        x.off(0);
        x.all();
        Worlds.between(x, 0, 1, 1);
        Worlds.between(x, 0, 3, 3);
        x.deliver(1, 0, 1);
        return x;
    }

    private static void tableOfNone() {
        Check.sentence("Promise 16", "The i-th WISH of u's TABLE of v (from 0 on); NONE if there is none such");
        Routes x = rows();
        Check.due("table(0, 1, 0)", x.table(0, 1, 0), 1);
        Check.due("table(0, 1, 1)", x.table(0, 1, 1), 2);
        for (int i : Worlds.outside(2)) {
            Check.due("table(0, 1, " + i + ")", x.table(0, 1, i), -1);
            Check.due("table(1, 0, " + i + ") of an empty one", x.table(1, 0, i), -1);
        }
        Check.due("table(1, 0, 0) of an empty one", x.table(1, 0, 0), -1);
        Check.due("table(2, 1, 0) of what was not delivered", x.table(2, 1, 0), -1);
        noneWithoutALink("table", (u, v) -> x.table(u, v, 0));
    }

    private interface AskWay {
        int of(int u, int v);
    }

    private static void noneWithoutALink(String name, AskWay ask) {
        for (int d : Worlds.outside(3)) {
            Check.due(name + "(" + d + ", 1, 0)", ask.of(d, 1), -1);
            Check.due(name + "(1, " + d + ", 0)", ask.of(1, d), -1);
            Check.due(name + "(" + d + ", itself, 0)", ask.of(d, d), -1);
        }
        Check.due(name + "(0, 2, 0) over a way of two links", ask.of(0, 2), -1);
        Check.due(name + "(2, 0, 0) over a way of two links", ask.of(2, 0), -1);
        for (int d = 0; d < 3; d++) {
            Check.due(name + "(" + d + ", itself, 0)", ask.of(d, d), -1);
        }
    }

    private static void tableOfManyWishes() {
        Check.sentence("Promise 16", "The i-th WISH of u's TABLE of v (from 0 on); NONE if there is none such");
        Routes x = Worlds.line(2);
        x.reader(0);
        for (int w = 0; w < 230; w++) {
            Worlds.between(x, 0, w, w);
        }
        x.all();
        for (int i : new int[] {0, 1, 31, 32, 62, 63, 64, 65, 127, 128, 191, 192, 228, 229}) {
            Check.due("table(1, 0, " + i + ")", x.table(1, 0, i), i);
            Check.due("told(0, 1, " + i + ")", x.told(0, 1, i), i);
        }
        for (int i : Worlds.outside(230)) {
            Check.due("table(1, 0, " + i + ")", x.table(1, 0, i), -1);
            Check.due("told(0, 1, " + i + ")", x.told(0, 1, i), -1);
        }
        highWishes();
    }

    /** The wishes with the greatest numbers, behind many that are the same. */
    private static void highWishes() {
        Routes x = Worlds.line(2);
        x.reader(1);
        x.reader(0);
        for (int w = 0; w < 250; w++) {
            x.wish(0);
        }
        for (int w = 250; w < 300; w++) {
            Worlds.between(x, 1, w, w);
        }
        x.deliver(0, 1, 1);
        Check.due("table(1, 0, 0)", x.table(1, 0, 0), 250);
        Check.due("table(1, 0, 6)", x.table(1, 0, 6), 256);
        Check.due("table(1, 0, 49)", x.table(1, 0, 49), 299);
        Check.due("table(1, 0, 50)", x.table(1, 0, 50), -1);
        Check.due("told(0, 1, 49)", x.told(0, 1, 49), 299);
        Check.due("told(0, 1, 50)", x.told(0, 1, 50), -1);
        Check.due("told(1, 0, 0)", Rows.told(x, 1, 0), "0");
        Worlds.send(x, 1, 299);
        Check.due("passed on for the last wish", Rows.messages(x, 1, 0), "-2 0");
        Worlds.send(x, 1, 300);
        Check.due("not passed on for none", x.notice(1, 5), 0);
    }

    private static void toldOfNone() {
        Check.sentence("Promise 17", "The i-th WISH of the row that u TOLD v latest; NONE if there is none such");
        Routes x = rows();
        Check.due("told(1, 0, 0)", x.told(1, 0, 0), 1);
        Check.due("told(1, 0, 1)", x.told(1, 0, 1), 2);
        for (int i : Worlds.outside(2)) {
            Check.due("told(1, 0, " + i + ")", x.told(1, 0, i), -1);
            Check.due("told(0, 1, " + i + ") of none", x.told(0, 1, i), -1);
        }
        Check.due("told(0, 1, 0) of a row of none", x.told(0, 1, 0), -1);
        Check.due("told(2, 1, 0) of one that told nothing", x.told(2, 1, 0), -1);
        noneWithoutALink("told", (u, v) -> x.told(u, v, 0));
    }

    private static void toldStaysAsDelivered() {
        Check.sentence("Promise 17", "the row that u TOLD v latest");
        Routes x = Worlds.line(2);
        x.reader(0);
        x.wish(0);
        Check.due("before the delivery", Rows.told(x, 0, 1), "0");
        x.all();
        Check.due("after the delivery", Rows.told(x, 0, 1), "0");
        x.off(0);
        Check.due("after off, before the delivery", Rows.told(x, 0, 1), "");
        x.all();
        Check.due("after off and the delivery", Rows.told(x, 0, 1), "");
        x.wish(0);
        x.cut(0, 1);
        Check.due("after cut", Rows.told(x, 0, 1), "");
    }

    private static void messageOfNone() {
        Check.sentence("Promise 18", "NONE if there is none such");
        Routes x = rows();
        Worlds.send(x, 0, 1);
        Worlds.send(x, 0, 3);
        Check.due("message(0, 1, 0)", x.message(0, 1, 0), 0);
        Check.due("message(0, 1, 1)", x.message(0, 1, 1), 1);
        for (int i : Worlds.outside(2)) {
            Check.due("message(0, 1, " + i + ")", x.message(0, 1, i), -1);
            Check.due("message(1, 0, " + i + ") of none", x.message(1, 0, i), -1);
        }
        Check.due("message(1, 0, 0) of none", x.message(1, 0, 0), -1);
        noneWithoutALink("message", (u, v) -> x.message(u, v, 0));
    }

    private static void messageIsANoticeOrATell() {
        Check.sentence("Promise 18", "(from 0 on, the first the next one): a NOTICE's number; -2, if it is a TELL");
        Routes x = Worlds.line(2);
        x.reader(0);
        x.reader(1);
        x.wish(1);
        x.all();
        Worlds.between(x, 0, 1, 1);
        Check.due("a tell", x.message(0, 1, 0), -2);
        Worlds.send(x, 0, 7);
        Check.due("the notice 0", x.message(0, 1, 1), 0);
        Worlds.send(x, 0, 8);
        Check.due("the notice 1", x.message(0, 1, 2), 1);
        x.deliver(0, 1, 1);
        Check.due("the next one is the first", x.message(0, 1, 0), 0);
        x.deliver(0, 1, 1);
        Check.due("the next one is the first", x.message(0, 1, 0), 1);
        Check.due("none behind", x.message(0, 1, 1), -1);
        x.deliver(0, 1, 1);
        Check.due("none", x.message(0, 1, 0), -1);
    }

    /** 60 notices, a tell before each and one behind: no more can ever lie between two desks. */
    private static void messagesAsManyAsThereMayBe() {
        Check.sentence("Promise 18", "Of the i-th MESSAGE from u to v");
        Routes x = listening();
        x.reader(0);
        for (int k = 0; k < 60; k++) {
            Worlds.between(x, 1, k, k);
            Worlds.send(x, 0, k);
        }
        Worlds.between(x, 1, 60, 60);
        Check.due("messages", x.count(5), 121);
        Check.due("tells", x.count(6), 61);
        for (int k = 0; k < 60; k++) {
            Check.due("a tell before notice " + k, x.message(0, 1, 2 * k), -2);
            Check.due("notice " + k, x.message(0, 1, 2 * k + 1), k);
        }
        Check.due("the last tell", x.message(0, 1, 120), -2);
        Check.due("none behind", x.message(0, 1, 121), -1);
        Worlds.between(x, 1, 61, 61);
        Check.due("messages with one wish more", x.count(5), 121);
        Check.due("deliver all but the last", x.deliver(0, 1, 120), 120);
        Check.due("the table's last before it", x.table(1, 0, 59), 60);
        Check.due("the table's end before it", x.table(1, 0, 60), -1);
        Check.due("deliver the last", x.deliver(0, 1, 9), 1);
        Check.due("the table's last", x.table(1, 0, 61), 62);
        Check.due("heard", x.heard(0, 59), 59);
    }

    private static void heardOfNone() {
        Check.sentence("Promise 19", "NONE if there is none such");
        Routes x = Worlds.oneReader();
        x.reader(0);
        x.wish(0);
        Check.due("heard(0, 0) of none", x.heard(0, 0), -1);
        Worlds.send(x, 0, 1);
        Worlds.send(x, 0, 2);
        Check.due("heard(0, 0)", x.heard(0, 0), 0);
        Check.due("heard(0, 1)", x.heard(0, 1), 1);
        for (int n : Worlds.outside(2)) {
            Check.due("heard(0, " + n + ")", x.heard(0, n), -1);
            Check.due("heard(" + n + ", 0)", x.heard(n, 0), -1);
            Check.due("heard(1, " + n + ") of none", x.heard(1, n), -1);
        }
        Check.due("heard(1, 0) of none", x.heard(1, 0), -1);
    }

    private static void heardInTheirOrder() {
        Check.sentence("Promise 19", "The i-th NOTICE that a READER HEARD");
        Routes x = listening();
        Worlds.send(x, 0, 1);
        Worlds.send(x, 1, 2);
        Check.due("the second came first", Rows.heard(x, 0), "1");
        x.all();
        Check.due("then the first", Rows.heard(x, 0), "1 0");
        x.off(0);
        Check.due("after off", Rows.heard(x, 0), "1 0");
        x.move(0, 0);
        Check.due("after a move", Rows.heard(x, 0), "1 0");
    }

    private static void noticeOfNone() {
        Check.sentence("Promise 20", "0 if there is none such");
        Routes x = Worlds.desks(2);
        x.send(1, 1, 2, 3, 4);
        for (int k : Worlds.outside(1)) {
            for (int what = -1; what <= 6; what++) {
                Check.due("notice(" + k + ", " + what + ")", x.notice(k, what), 0);
            }
        }
    }

    private static void noticeForAnotherWhat() {
        Check.sentence("Promise 20", "0 .. for another what");
        Routes x = Worlds.star(12);
        x.reader(0);
        x.wish(0);
        x.all();
        x.send(11, 1, 2, 3, 4);
        for (int what : Worlds.outside(6)) {
            Check.due("notice(0, " + what + ")", x.notice(0, what), 0);
        }
        int[] due = {1, 2, 3, 4, 11, 1};
        for (int what = 0; what < due.length; what++) {
            Check.due("notice(0, " + what + ")", x.notice(0, what), due[what]);
        }
    }

    private static void noticeFieldsAndDesk() {
        Check.sentence("Promise 20", "0 to 3 its FIELDS, 4 the DESK at which it was sent");
        Routes x = Worlds.line(12);
        x.reader(0);
        x.wish(0);
        x.all();
        x.send(11, LEAST, MOST, -1, 1);
        x.send(0, MOST, LEAST, 1, -1);
        Check.due("field 0 of the first", x.notice(0, 0), LEAST);
        Check.due("field 1 of the first", x.notice(0, 1), MOST);
        Check.due("field 2 of the first", x.notice(0, 2), -1);
        Check.due("field 3 of the first", x.notice(0, 3), 1);
        Check.due("field 0 of the last", x.notice(1, 0), MOST);
        Check.due("field 3 of the last", x.notice(1, 3), -1);
        x.all();
        Check.due("the desk where it was sent, though it came to 0", x.notice(0, 4), 11);
        Check.due("the desk 0", x.notice(1, 4), 0);
        Check.due("heard", Rows.heard(x, 0), "1 0");
    }

    private static void noticeOfNoOneAndElevenMessages() {
        Check.sentence("Promise 20", "5 how many MESSAGES are it");
        Routes x = Worlds.star(12);
        x.send(0, 1, 1, 1, 1);
        Check.due("none", x.notice(0, 5), 0);
        for (int d = 1; d < 12; d++) {
            x.reader(d);
            x.wish(d - 1);
        }
        x.all();
        x.send(0, 1, 1, 1, 1);
        Check.due("eleven", x.notice(1, 5), 11);
        for (int d = 1; d < 12; d++) {
            x.deliver(0, d, 1);
            Check.due("one less", x.notice(1, 5), 11 - d);
        }
        x.send(11, 1, 1, 1, 1);
        Check.due("one", x.notice(2, 5), 1);
        x.deliver(11, 0, 1);
        Check.due("ten in its place", x.notice(2, 5), 10);
    }

    private static void countForAnotherWhat() {
        Check.sentence("Promise 22", "NONE for another what");
        Routes x = Worlds.oneReader();
        for (int what : Worlds.outside(11)) {
            Check.due("count(" + what + ")", x.count(what), -1);
        }
        Routes y = new Routes();
        for (int what = -1; what <= 11; what++) {
            Check.due("count(" + what + ") of a new object", y.count(what), what < 0 || what > 10 ? -1 : 0);
        }
    }

    private static void counts(Routes x, String when, int... due) {
        for (int what = 0; what < due.length; what++) {
            Check.due("count(" + what + ") " + when, x.count(what), due[what]);
        }
    }

    private static void countFromNoneOn() {
        Check.sentence("Promise 22", "0 DESKS, 1 READERS, 2 WISHES (OFF ones, too), 3 NOTICES, 4 NOTICES UNDER WAY");
        Routes x = Worlds.line(3);
        counts(x, "with desks", 3, 0, 0, 0, 0, 0, 0, 0, 0, 0, 2);
        x.reader(2);
        x.wish(0);
        counts(x, "with a wish", 3, 1, 1, 0, 0, 1, 1, 0, 0, 0, 2);
        x.all();
        counts(x, "with the wish told", 3, 1, 1, 0, 0, 0, 0, 0, 0, 2, 2);
        x.send(0, 1, 1, 1, 1);
        counts(x, "with a notice", 3, 1, 1, 1, 1, 1, 0, 1, 0, 2, 2);
        x.off(0);
        counts(x, "with the wish OFF", 3, 1, 1, 1, 1, 2, 1, 1, 0, 2, 2);
        x.deliver(0, 1, 1);
        counts(x, "with the notice passed on", 3, 1, 1, 1, 1, 2, 1, 2, 1, 2, 2);
        x.cut(1, 2);
        counts(x, "with its link cut", 3, 1, 1, 1, 0, 1, 1, 2, 1, 2, 1);
        x.all();
        counts(x, "with all delivered", 3, 1, 1, 1, 0, 0, 0, 2, 1, 3, 1);
    }

    private static void countAtTheMost() {
        Check.sentence("Promise 22", "5 MESSAGES, 6 TELLS among them, 7 NOTICES that came behind MESSAGES (each time)");
        Routes x = Worlds.star(12);
        for (int d = 0; d < 24; d++) {
            x.reader(d % 12);
        }
        for (int w = 0; w < 299; w++) {
            x.wish(w % 24);
        }
        Check.due("tells", x.count(6), 22);
        x.all();
        for (int k = 0; k < 60; k++) {
            x.send(0, k, k, k, k);
        }
        Check.due("the last wish", x.wish(0), 299);
        counts(x, "at the most", 12, 24, 300, 60, 60, 660, 0, 660, 0);
        Check.due("links", x.count(10), 11);
        Check.due("all()", x.all(), 660);
        counts(x, "with all delivered", 12, 24, 300, 60, 0, 0, 0, 660, 0);
    }
}
