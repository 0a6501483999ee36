/** Promises 7 to 10, 14, 15 and 21: test, among, wish, off, covers, fits, look. */
final class WishesTest {
    private static final int LEAST = Integer.MIN_VALUE;
    private static final int MOST = Integer.MAX_VALUE;

    private WishesTest() {
    }

    public static void main(String[] args) {
        testSetsTheReading();
        testRefuses();
        amongGathersNumbers();
        amongAfterOtherKinds();
        wishTakesTheReading();
        wishesAreThreeHundredAtMost();
        refusedWishKeepsTheReading();
        offEndsAWish();
        coversByRanges();
        coversByNumbers();
        coversAtTheEdgesOfInt();
        coversAsksEachField();
        wishThatNothingFits();
        coversAndFitsOfNoWish();
        fitsAsksEachField();
        lookTellsTheTests();
        Check.end();
    }

    private static void testSetsTheReading() {
        Routes x = Worlds.oneReader();
        Check.due("test BETWEEN", x.test(1, 1, -3, 8), true);
        Check.due("test NOT", x.test(2, 2, 4, 4), true);
        Check.due("test ANY with a above b", x.test(3, 0, 5, 1), true);
        x.wish(0);
        Check.due("kinds", Rows.kinds(x, 0), "0 1 2 0");
        Check.due("numbers of 1", Rows.numbers(x, 0, 1), "-3 8 0 0");
        Check.due("numbers of 2", Rows.numbers(x, 0, 2), "4 4 0 0");
        Check.due("numbers of ANY", Rows.numbers(x, 0, 3), "0 0 0 0");
        x.test(0, 1, 1, 2);
        x.test(0, 2, 3, 4);
        x.test(1, 1, 1, 2);
        x.test(1, 0, 3, 4);
        x.wish(0);
        Check.due("the latest test stays", Rows.kinds(x, 1), "2 0 0 0");
        Check.due("its numbers", Rows.numbers(x, 1, 0), "3 4 0 0");
        Check.due("numbers of ANY after BETWEEN", Rows.numbers(x, 1, 1), "0 0 0 0");
    }

    private static void testRefuses() {
        Routes x = Worlds.oneReader();
        x.test(0, 1, 1, 9);
        Check.due("field -1", x.test(-1, 1, 1, 2), false);
        Check.due("field 4", x.test(4, 1, 1, 2), false);
        Check.due("kind -1", x.test(0, -1, 1, 2), false);
        Check.due("kind 3", x.test(0, 3, 1, 2), false);
        Check.due("BETWEEN with a above b", x.test(0, 1, 3, 2), false);
        Check.due("NOT with a above b", x.test(0, 2, MOST, LEAST), false);
        x.wish(0);
        Check.due("kinds after refusals", Rows.kinds(x, 0), "1 0 0 0");
        Check.due("numbers after refusals", Rows.numbers(x, 0, 0), "1 9 0 0");
    }

    private static void amongGathersNumbers() {
        Routes x = Worlds.oneReader();
        Check.due("among 7", x.among(2, 7), true);
        Check.due("among -7", x.among(2, -7), true);
        Check.due("among 7 again", x.among(2, 7), false);
        Check.due("among 0", x.among(2, 0), true);
        Check.due("among most", x.among(2, MOST), true);
        Check.due("among a fifth", x.among(2, 1), false);
        Check.due("among one it has, being full", x.among(2, 0), false);
        Check.due("among field -1", x.among(-1, 0), false);
        Check.due("among field 4", x.among(4, 0), false);
        x.wish(0);
        Check.due("kinds", Rows.kinds(x, 0), "0 0 3 0");
        Check.due("numbers", Rows.numbers(x, 0, 2), "-7 0 7 " + MOST);
        x.among(0, 5);
        x.among(0, 2);
        x.wish(0);
        Check.due("two numbers", Rows.numbers(x, 1, 0), "2 5 0 0");
    }

    private static void amongAfterOtherKinds() {
        Routes x = Worlds.oneReader();
        x.test(0, 1, 5, 9);
        Check.due("among after BETWEEN, a number of its own", x.among(0, 5), true);
        x.among(1, 1);
        x.among(1, 2);
        x.test(1, 2, 3, 4);
        Check.due("among after NOT after AMONG", x.among(1, 1), true);
        x.among(2, 8);
        x.test(2, 0, 0, 0);
        x.wish(0);
        Check.due("kinds", Rows.kinds(x, 0), "3 3 0 0");
        Check.due("BETWEEN is gone", Rows.numbers(x, 0, 0), "5 0 0 0");
        Check.due("NOT and the AMONG before are gone", Rows.numbers(x, 0, 1), "1 0 0 0");
    }

    private static void wishTakesTheReading() {
        Routes x = Worlds.oneReader();
        x.reader(0);
        x.test(0, 1, 1, 2);
        x.among(1, 4);
        Check.due("wish(1)", x.wish(1), 0);
        x.test(2, 2, 6, 7);
        x.among(1, 5);
        Check.due("wish(0)", x.wish(0), 1);
        Check.due("readers of wishes", x.look(0, 0) * 10 + x.look(1, 0), 10);
        Check.due("kinds of the first", Rows.kinds(x, 0), "1 3 0 0");
        Check.due("numbers of the first", Rows.numbers(x, 0, 1), "4 0 0 0");
        Check.due("kinds of the second", Rows.kinds(x, 1), "0 3 2 0");
        Check.due("wish(2)", x.wish(2), -2);
        Check.due("wish(-1)", x.wish(-1), -2);
        Check.due("wishes", x.count(2), 2);
    }

    private static void wishesAreThreeHundredAtMost() {
        Routes x = Worlds.oneReader();
        x.desk();
        x.link(0, 1);
        x.test(0, 1, 1, 2);
        for (int w = 0; w < 299; w++) {
            Check.due("wish()", x.wish(0), w);
        }
        x.test(1, 1, 1, 1);
        x.off(1);
        Check.due("the last wish", x.wish(0), 299);
        Check.due("wish beyond 300", x.wish(0), -8);
        Check.due("wish beyond 300 of no reader", x.wish(1), -2);
        Check.due("wishes", x.count(2), 300);
        Check.due("told is the least that covers all", Rows.told(x, 0, 1), "2");
        x.move(0, 1);
        Check.due("the last wish is looked at", x.look(299, 3), 1);
        Check.due("covers(0, 299)", x.covers(0, 299), 0);
    }

    private static void refusedWishKeepsTheReading() {
        Routes x = Worlds.oneReader();
        x.test(3, 1, 5, 6);
        x.wish(9);
        x.wish(0);
        Check.due("kinds", Rows.kinds(x, 0), "0 0 0 1");
    }

    private static void offEndsAWish() {
        Routes x = Worlds.oneReader();
        x.desk();
        x.link(0, 1);
        x.test(0, 1, 1, 5);
        x.wish(0);
        x.test(0, 1, 2, 3);
        x.wish(0);
        Check.due("alive", x.look(0, 1), 1);
        Check.due("off(2)", x.off(2), -2);
        Check.due("off(-1)", x.off(-1), -2);
        Check.due("off(0)", x.off(0), 0);
        Check.due("off again", x.off(0), -4);
        Check.due("not alive", x.look(0, 1), 0);
        Check.due("its tests stay", x.look(0, 2), 1);
        Check.due("the other is alive", x.look(1, 1), 1);
        Check.due("told", Rows.told(x, 0, 1), "1");
        x.send(0, 5, 0, 0, 0);
        x.send(0, 3, 0, 0, 0);
        Check.due("heard by the other wish alone", Rows.heard(x, 0), "1");
        Check.due("covers of one OFF", x.covers(0, 1), 1);
        Check.due("fits of one OFF", x.fits(0, 5, 0, 0, 0), 1);
        Check.due("wishes with OFF ones", x.count(2), 2);
    }

    private static void coversByRanges() {
        Routes x = Worlds.oneReader();
        int wide = Worlds.ranged(x, 0, 1, 0, 10);
        int narrow = Worlds.ranged(x, 0, 1, 3, 7);
        int gap = Worlds.ranged(x, 0, 2, 8, 9);
        int smallGap = Worlds.ranged(x, 0, 2, 9, 9);
        int any = Worlds.ranged(x, 0, 0, 0, 0);
        coversOneWay(x, wide, narrow);
        coversOneWay(x, gap, narrow);
        coversOneWay(x, smallGap, gap);
        coversOneWay(x, any, wide);
        coversOneWay(x, any, smallGap);
        coversNeither(x, wide, gap);
        coversNeither(x, narrow, Worlds.ranged(x, 0, 1, 7, 8));
        coversOneWay(x, gap, Worlds.ranged(x, 0, 1, 10, MOST));
        coversOneWay(x, gap, Worlds.ranged(x, 0, 1, LEAST, 7));
        coversNeither(x, gap, Worlds.ranged(x, 0, 1, 9, 10));
        coversNeither(x, gap, Worlds.ranged(x, 0, 1, 7, 10));
        coversNeither(x, gap, Worlds.ranged(x, 0, 2, 9, 10));
        coversSame(x, gap, Worlds.ranged(x, 0, 2, 8, 9));
        Check.due("covers itself", x.covers(gap, gap), 1);
    }

    private static void coversByNumbers() {
        Routes x = Worlds.oneReader();
        int four = Worlds.numbered(x, 0, 6, 3, 5, 4);
        coversSame(x, four, Worlds.ranged(x, 0, 1, 3, 6));
        coversOneWay(x, four, Worlds.ranged(x, 0, 1, 4, 5));
        coversOneWay(x, four, Worlds.numbered(x, 0, 3, 6));
        coversNeither(x, four, Worlds.numbered(x, 0, 3, 7));
        coversOneWay(x, Worlds.ranged(x, 0, 1, 3, 7), four);
        coversOneWay(x, Worlds.ranged(x, 0, 2, 7, 9), four);
        coversNeither(x, Worlds.ranged(x, 0, 2, 6, 9), four);
        coversNeither(x, four, Worlds.ranged(x, 0, 1, 2, 4));
        int split = Worlds.numbered(x, 0, 1, 2, 4, 5);
        coversNeither(x, split, Worlds.ranged(x, 0, 1, 2, 4));
        coversOneWay(x, split, Worlds.ranged(x, 0, 1, 4, 5));
        coversSame(x, Worlds.numbered(x, 0, 8), Worlds.ranged(x, 0, 1, 8, 8));
        coversSame(x, Worlds.numbered(x, 0, 1, 2), Worlds.numbered(x, 0, 2, 1));
    }

    private static void coversAtTheEdgesOfInt() {
        Routes x = Worlds.oneReader();
        int any = Worlds.ranged(x, 0, 0, 0, 0);
        coversSame(x, any, Worlds.ranged(x, 0, 1, LEAST, MOST));
        coversSame(x, Worlds.ranged(x, 0, 2, LEAST, 0), Worlds.ranged(x, 0, 1, 1, MOST));
        coversSame(x, Worlds.ranged(x, 0, 2, 0, MOST), Worlds.ranged(x, 0, 1, LEAST, -1));
        coversSame(x, Worlds.ranged(x, 0, 2, LEAST, MOST - 2), Worlds.numbered(x, 0, MOST, MOST - 1));
        coversSame(x, Worlds.ranged(x, 0, 2, LEAST + 2, MOST), Worlds.numbered(x, 0, LEAST + 1, LEAST));
        coversSame(x, Worlds.ranged(x, 0, 2, LEAST + 1, MOST - 1), Worlds.numbered(x, 0, LEAST, MOST));
        coversOneWay(x, any, Worlds.ranged(x, 0, 2, MOST, MOST));
        coversOneWay(x, any, Worlds.ranged(x, 0, 1, LEAST, MOST - 1));
        coversNeither(x, Worlds.ranged(x, 0, 2, LEAST, LEAST), Worlds.numbered(x, 0, LEAST, MOST));
    }

    private static void coversAsksEachField() {
        for (int field = 0; field < 4; field++) {
            Routes x = Worlds.oneReader();
            x.wish(0);
            x.test(field, 1, 1, 5);
            x.wish(0);
            x.test(field, 1, 2, 5);
            x.test((field + 1) % 4, 1, 0, 0);
            x.wish(0);
            x.test((field + 1) % 4, 1, 0, 1);
            x.wish(0);
            coversOneWay(x, 0, 1);
            coversOneWay(x, 1, 2);
            coversNeither(x, 1, 3);
            coversOneWay(x, 3, 2);
        }
    }

    private static void wishThatNothingFits() {
        Routes x = Worlds.oneReader();
        x.test(0, 1, 1, 2);
        x.wish(0);
        x.test(3, 2, LEAST, MOST);
        x.wish(0);
        x.test(1, 2, LEAST, MOST);
        x.test(0, 1, 8, 9);
        x.wish(0);
        coversOneWay(x, 0, 1);
        coversOneWay(x, 0, 2);
        coversSame(x, 1, 2);
        Check.due("fits none", x.fits(1, 0, 0, 0, 0), 0);
        for (int field = 0; field < 4; field++) {
            Routes y = Worlds.oneReader();
            y.test(field, 2, LEAST, MOST);
            y.wish(0);
            y.test((field + 1) % 4, 1, 1, 2);
            y.wish(0);
            y.test(field, 2, LEAST, MOST - 1);
            y.wish(0);
            Check.due("covers none of " + field, y.covers(1, 0), 1);
            Check.due("is not covered by none of " + field, y.covers(0, 1), 0);
            Check.due("one number of " + field + " is not none", y.covers(1, 2), 0);
        }
    }

    private static void coversAndFitsOfNoWish() {
        Routes x = Worlds.oneReader();
        x.wish(0);
        Check.due("covers(0, 1)", x.covers(0, 1), -1);
        Check.due("covers(1, 0)", x.covers(1, 0), -1);
        Check.due("covers(-1, 0)", x.covers(-1, 0), -1);
        Check.due("covers(0, least)", x.covers(0, LEAST), -1);
        Check.due("fits(1)", x.fits(1, 0, 0, 0, 0), -1);
        Check.due("fits(-1)", x.fits(-1, 0, 0, 0, 0), -1);
        Check.due("fits(most)", x.fits(MOST, 0, 0, 0, 0), -1);
    }

    private static void fitsAsksEachField() {
        Routes x = Worlds.oneReader();
        x.test(0, 1, 2, 4);
        x.test(1, 2, 2, 4);
        x.among(2, 9);
        x.among(2, LEAST);
        x.wish(0);
        Check.due("fits at the lower edge", x.fits(0, 2, 1, 9, MOST), 1);
        Check.due("fits at the upper edge", x.fits(0, 4, 5, LEAST, LEAST), 1);
        Check.due("field 0 below", x.fits(0, 1, 1, 9, 0), 0);
        Check.due("field 0 above", x.fits(0, 5, 1, 9, 0), 0);
        Check.due("field 1 at a", x.fits(0, 3, 2, 9, 0), 0);
        Check.due("field 1 at b", x.fits(0, 3, 4, 9, 0), 0);
        Check.due("field 2", x.fits(0, 3, 1, 8, 0), 0);
        x.test(3, 1, 0, 0);
        x.wish(0);
        Check.due("field 3", x.fits(1, 0, 0, 0, 1), 0);
        Check.due("field 3 fits", x.fits(1, 1, 1, 1, 0), 1);
    }

    private static void lookTellsTheTests() {
        Routes x = Worlds.oneReader();
        x.reader(0);
        x.test(0, 2, -4, 6);
        x.test(3, 1, LEAST, MOST);
        x.among(1, 3);
        x.wish(1);
        Check.due("reader", x.look(0, 0), 1);
        Check.due("alive", x.look(0, 1), 1);
        Check.due("kinds", Rows.kinds(x, 0), "2 3 0 1");
        Check.due("numbers of 0", Rows.numbers(x, 0, 0), "-4 6 0 0");
        Check.due("numbers of 1", Rows.numbers(x, 0, 1), "3 0 0 0");
        Check.due("numbers of 2", Rows.numbers(x, 0, 2), "0 0 0 0");
        Check.due("numbers of 3", Rows.numbers(x, 0, 3), LEAST + " " + MOST + " 0 0");
        for (int what : new int[] {-1, 6, 7, 8, 9, 26, 27, LEAST, MOST}) {
            Check.due("look(0, " + what + ")", x.look(0, what), 0);
        }
        Check.due("look(1, 2)", x.look(1, 2), 0);
        Check.due("look(-1, 1)", x.look(-1, 1), 0);
    }

    private static void coversOneWay(Routes x, int wide, int narrow) {
        Check.due(pair(x, wide, narrow), x.covers(wide, narrow), 1);
        Check.due(pair(x, narrow, wide), x.covers(narrow, wide), 0);
    }

    private static void coversNeither(Routes x, int a, int b) {
        Check.due(pair(x, a, b), x.covers(a, b), 0);
        Check.due(pair(x, b, a), x.covers(b, a), 0);
    }

    private static void coversSame(Routes x, int a, int b) {
        Check.due(pair(x, a, b), x.covers(a, b), 1);
        Check.due(pair(x, b, a), x.covers(b, a), 1);
    }

    private static String pair(Routes x, int a, int b) {
        return "covers of field 0: " + x.look(a, 2) + " (" + Rows.numbers(x, a, 0) + "), "
            + x.look(b, 2) + " (" + Rows.numbers(x, b, 0) + ")";
    }
}
