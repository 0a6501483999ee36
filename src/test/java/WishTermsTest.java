/** The boundary cases that point 1 of 'Terms' names: tests, fitting, covering. */
final class WishTermsTest {
    private static final int LEAST = Worlds.LEAST;
    private static final int MOST = Worlds.MOST;
    private static final int ANY = 0;
    private static final int BETWEEN = 1;
    private static final int NOT = 2;

    private WishTermsTest() {
    }

    public static void main(String[] args) {
        fieldsAreInts();
        anyPassesEveryNumber();
        betweenPassesFromAToB();
        betweenAtTheEdgesOfInt();
        notPassesWhatIsNotFromAToB();
        notAtTheEdgesOfInt();
        notOfAllPassesNone();
        amongPassesItsNumbers();
        eachFieldMustPass();
        wishIsAliveTillOff();
        coversItself();
        coversBetweenByOne();
        coversNotByOne();
        coversBetweenAndNot();
        coversAmongByOne();
        coversWhatSeveralNumbersPassTogether();
        coversAtTheEdgesOfInt();
        coversWhatNothingFits();
        nothingFittingCoversOnlyItsLike();
        coversAsksEachField();
        sameInDifferentWords();
        coversAgreesWithFits();
        Check.end();
    }

    private static void fieldsAreInts() {
        Check.sentence("Terms 1", "NOTICES, from 0 on, have four FIELDS (0 to 3), ints");
        Routes x = Worlds.oneReader();
        Check.due("send", x.send(0, LEAST, MOST, -1, 0), 0);
        Check.due("field 0", x.notice(0, 0), LEAST);
        Check.due("field 1", x.notice(0, 1), MOST);
        Check.due("field 2", x.notice(0, 2), -1);
        Check.due("field 3", x.notice(0, 3), 0);
        Check.due("send", x.send(0, 1, 2, 3, MOST), 1);
        Check.due("field 3 of the second", x.notice(1, 3), MOST);
        Check.due("field 0 of the first stays", x.notice(0, 0), LEAST);
    }

    private static void passes(Routes x, int wish, int[] numbers, boolean due) {
        for (int n : numbers) {
            Check.due("fits(" + wish + ", " + n + ")", x.fits(wish, n, 0, 0, 0), due ? 1 : 0);
        }
    }

    private static int[] all(int... numbers) {
        return numbers;
    }

    private static void anyPassesEveryNumber() {
        Check.sentence("Terms 1", "0 ANY: every number passes");
        Routes x = Worlds.oneReader();
        passes(x, Worlds.ranged(x, 0, ANY, 5, 6), all(LEAST, LEAST + 1, -1, 0, 1, 5, 7, MOST - 1, MOST), true);
    }

    private static void betweenPassesFromAToB() {
        Check.sentence("Terms 1", "1 BETWEEN: those from a to b, a not above b");
        Routes x = Worlds.oneReader();
        int range = Worlds.between(x, 0, -2, 3);
        passes(x, range, all(-2, -1, 0, 3), true);
        passes(x, range, all(-3, 4, LEAST, MOST), false);
        int one = Worlds.between(x, 0, 7, 7);
        passes(x, one, all(7), true);
        passes(x, one, all(6, 8, -7, LEAST, MOST), false);
    }

    private static void betweenAtTheEdgesOfInt() {
        Check.sentence("Terms 1", "1 BETWEEN: those from a to b");
        Routes x = Worlds.oneReader();
        passes(x, Worlds.between(x, 0, LEAST, MOST), all(LEAST, -1, 0, MOST), true);
        int least = Worlds.between(x, 0, LEAST, LEAST);
        passes(x, least, all(LEAST), true);
        passes(x, least, all(LEAST + 1, 0, MOST), false);
        int most = Worlds.between(x, 0, MOST, MOST);
        passes(x, most, all(MOST), true);
        passes(x, most, all(LEAST, 0, MOST - 1), false);
        int below = Worlds.between(x, 0, LEAST, -1);
        passes(x, below, all(LEAST, -1), true);
        passes(x, below, all(0, MOST), false);
        int wide = Worlds.between(x, 0, LEAST + 1, MOST - 1);
        passes(x, wide, all(LEAST + 1, 0, MOST - 1), true);
        passes(x, wide, all(LEAST, MOST), false);
    }

    private static void notPassesWhatIsNotFromAToB() {
        Check.sentence("Terms 1", "2 NOT: those not from a to b, a not above b");
        Routes x = Worlds.oneReader();
        int range = Worlds.ranged(x, 0, NOT, -2, 3);
        passes(x, range, all(-3, 4, LEAST, MOST), true);
        passes(x, range, all(-2, -1, 0, 3), false);
        int one = Worlds.ranged(x, 0, NOT, 7, 7);
        passes(x, one, all(6, 8, LEAST, MOST), true);
        passes(x, one, all(7), false);
    }

    private static void notAtTheEdgesOfInt() {
        Check.sentence("Terms 1", "2 NOT: those not from a to b");
        Routes x = Worlds.oneReader();
        int least = Worlds.ranged(x, 0, NOT, LEAST, LEAST);
        passes(x, least, all(LEAST + 1, 0, MOST), true);
        passes(x, least, all(LEAST), false);
        int most = Worlds.ranged(x, 0, NOT, MOST, MOST);
        passes(x, most, all(LEAST, 0, MOST - 1), true);
        passes(x, most, all(MOST), false);
        int ends = Worlds.ranged(x, 0, NOT, LEAST + 1, MOST - 1);
        passes(x, ends, all(LEAST, MOST), true);
        passes(x, ends, all(LEAST + 1, 0, MOST - 1), false);
    }

    private static void notOfAllPassesNone() {
        Check.sentence("Terms 1", "2 NOT: those not from a to b");
        Routes x = Worlds.oneReader();
        passes(x, Worlds.ranged(x, 0, NOT, LEAST, MOST), all(LEAST, LEAST + 1, -1, 0, 1, MOST - 1, MOST), false);
        x.send(0, 0, 0, 0, 0);
        Check.due("nothing is heard", x.heard(0, 0), -1);
    }

    private static void amongPassesItsNumbers() {
        Check.sentence("Terms 1", "3 AMONG: one of up to 4 numbers");
        Routes x = Worlds.oneReader();
        int one = Worlds.numbered(x, 0, 5);
        passes(x, one, all(5), true);
        passes(x, one, all(4, 6, 0, LEAST, MOST), false);
        int two = Worlds.numbered(x, 0, 5, 3);
        passes(x, two, all(3, 5), true);
        passes(x, two, all(2, 4, 6, 0), false);
        int three = Worlds.numbered(x, 0, 5, -3, 1);
        passes(x, three, all(5, -3, 1), true);
        passes(x, three, all(0, 2, 3, -2), false);
        int four = Worlds.numbered(x, 0, 0, MOST, LEAST, -1);
        passes(x, four, all(LEAST, -1, 0, MOST), true);
        passes(x, four, all(LEAST + 1, -2, 1, MOST - 1), false);
    }

    private static void eachFieldMustPass() {
        Check.sentence("Terms 1", "A NOTICE FITS it if each FIELD passes its TEST");
        Routes x = Worlds.oneReader();
        x.test(0, BETWEEN, 1, 1);
        x.test(1, NOT, 2, 2);
        x.among(2, 3);
        x.test(3, BETWEEN, 4, 4);
        x.wish(0);
        Check.due("all four", x.fits(0, 1, 1, 3, 4), 1);
        Check.due("all but field 0", x.fits(0, 2, 1, 3, 4), 0);
        Check.due("all but field 1", x.fits(0, 1, 2, 3, 4), 0);
        Check.due("all but field 2", x.fits(0, 1, 1, 4, 4), 0);
        Check.due("all but field 3", x.fits(0, 1, 1, 3, 5), 0);
        Check.due("none", x.fits(0, 0, 2, 0, 0), 0);
        for (int field = 0; field < 4; field++) {
            x.test(field, BETWEEN, 5, 5);
            int wish = x.wish(0);
            for (int at = 0; at < 4; at++) {
                int fits = x.fits(wish, at == 0 ? 5 : 0, at == 1 ? 5 : 0, at == 2 ? 5 : 0, at == 3 ? 5 : 0);
                Check.due("5 in field " + at + " alone, wished in " + field, fits, at == field ? 1 : 0);
            }
        }
    }

    private static void wishIsAliveTillOff() {
        Check.sentence("Terms 1", "is ALIVE till it is put OFF");
        Routes x = Worlds.line(2);
        x.reader(0);
        x.wish(0);
        Check.due("as made", x.look(0, 1), 1);
        x.send(0, 1, 1, 1, 1);
        x.move(0, 1);
        x.cut(0, 1);
        x.wish(0);
        Check.due("after all but off", x.look(0, 1), 1);
        x.off(0);
        Check.due("after off", x.look(0, 1), 0);
        x.move(0, 0);
        x.wish(0);
        Check.due("after a move and another wish", x.look(0, 1), 0);
    }

    private static void coversItself() {
        Check.sentence("Terms 1", "if each NOTICE that there can be that FITS the other FITS it");
        Routes x = Worlds.oneReader();
        int[] wishes = {
            Worlds.ranged(x, 0, ANY, 0, 0), Worlds.between(x, 0, 1, 1), Worlds.between(x, 0, LEAST, MOST),
            Worlds.ranged(x, 0, NOT, 3, 4), Worlds.ranged(x, 0, NOT, LEAST, MOST), Worlds.numbered(x, 0, LEAST, MOST)};
        for (int wish : wishes) {
            Check.due("covers itself", x.covers(wish, wish), 1);
        }
    }

    private static void oneWay(Routes x, int wide, int narrow) {
        Check.due(pair(wide, narrow), x.covers(wide, narrow), 1);
        Check.due(pair(narrow, wide), x.covers(narrow, wide), 0);
    }

    private static void neither(Routes x, int a, int b) {
        Check.due(pair(a, b), x.covers(a, b), 0);
        Check.due(pair(b, a), x.covers(b, a), 0);
    }

    private static void same(Routes x, int a, int b) {
        Check.due(pair(a, b), x.covers(a, b), 1);
        Check.due(pair(b, a), x.covers(b, a), 1);
    }

    private static String pair(int a, int b) {
        return "covers(" + a + ", " + b + ")";
    }

    private static void coversBetweenByOne() {
        Check.sentence("Terms 1", "One WISH COVERS another one");
        Routes x = Worlds.oneReader();
        int range = Worlds.between(x, 0, 3, 7);
        oneWay(x, range, Worlds.between(x, 0, 3, 6));
        oneWay(x, range, Worlds.between(x, 0, 4, 7));
        oneWay(x, range, Worlds.between(x, 0, 3, 3));
        oneWay(x, range, Worlds.between(x, 0, 7, 7));
        same(x, range, Worlds.between(x, 0, 3, 7));
        oneWay(x, Worlds.between(x, 0, 2, 7), range);
        oneWay(x, Worlds.between(x, 0, 3, 8), range);
        neither(x, range, Worlds.between(x, 0, 2, 6));
        neither(x, range, Worlds.between(x, 0, 4, 8));
        neither(x, range, Worlds.between(x, 0, 8, 9));
        neither(x, range, Worlds.between(x, 0, 1, 2));
    }

    private static void coversNotByOne() {
        Check.sentence("Terms 1", "One WISH COVERS another one");
        Routes x = Worlds.oneReader();
        int gap = Worlds.ranged(x, 0, NOT, 3, 7);
        oneWay(x, Worlds.ranged(x, 0, NOT, 3, 6), gap);
        oneWay(x, Worlds.ranged(x, 0, NOT, 4, 7), gap);
        oneWay(x, gap, Worlds.ranged(x, 0, NOT, 2, 7));
        oneWay(x, gap, Worlds.ranged(x, 0, NOT, 3, 8));
        same(x, gap, Worlds.ranged(x, 0, NOT, 3, 7));
        neither(x, gap, Worlds.ranged(x, 0, NOT, 4, 8));
        neither(x, gap, Worlds.ranged(x, 0, NOT, 8, 9));
        oneWay(x, Worlds.ranged(x, 0, ANY, 0, 0), gap);
    }

    private static void coversBetweenAndNot() {
        Check.sentence("Terms 1", "One WISH COVERS another one");
        Routes x = Worlds.oneReader();
        int gap = Worlds.ranged(x, 0, NOT, 3, 7);
        oneWay(x, gap, Worlds.between(x, 0, 1, 2));
        oneWay(x, gap, Worlds.between(x, 0, 8, 9));
        oneWay(x, gap, Worlds.between(x, 0, LEAST, 2));
        oneWay(x, gap, Worlds.between(x, 0, 8, MOST));
        neither(x, gap, Worlds.between(x, 0, 1, 3));
        neither(x, gap, Worlds.between(x, 0, 7, 9));
        neither(x, gap, Worlds.between(x, 0, 3, 7));
        neither(x, gap, Worlds.between(x, 0, 2, 8));
        neither(x, gap, Worlds.between(x, 0, LEAST, MOST - 1));
        oneWay(x, Worlds.between(x, 0, LEAST, MOST), gap);
    }

    private static void coversAmongByOne() {
        Check.sentence("Terms 1", "One WISH COVERS another one");
        Routes x = Worlds.oneReader();
        int four = Worlds.numbered(x, 0, 1, 3, 5, 7);
        oneWay(x, four, Worlds.numbered(x, 0, 1));
        oneWay(x, four, Worlds.numbered(x, 0, 7, 1));
        oneWay(x, four, Worlds.numbered(x, 0, 3, 5, 7));
        same(x, four, Worlds.numbered(x, 0, 7, 5, 3, 1));
        neither(x, four, Worlds.numbered(x, 0, 1, 3, 5, 8));
        neither(x, four, Worlds.numbered(x, 0, 1, 2));
        oneWay(x, Worlds.between(x, 0, 1, 7), four);
        neither(x, Worlds.between(x, 0, 2, 7), four);
        neither(x, Worlds.between(x, 0, 1, 6), four);
        oneWay(x, Worlds.ranged(x, 0, NOT, 8, 9), four);
        oneWay(x, Worlds.ranged(x, 0, NOT, 4, 4), four);
        neither(x, Worlds.ranged(x, 0, NOT, 7, 9), four);
        neither(x, Worlds.ranged(x, 0, NOT, 0, 1), four);
        oneWay(x, Worlds.ranged(x, 0, ANY, 0, 0), four);
    }

    private static void coversWhatSeveralNumbersPassTogether() {
        Check.sentence("Terms 1", "each NOTICE that there can be that FITS the other FITS it");
        Routes x = Worlds.oneReader();
        int four = Worlds.numbered(x, 0, 4, 2, 3, 1);
        same(x, four, Worlds.between(x, 0, 1, 4));
        oneWay(x, four, Worlds.between(x, 0, 2, 3));
        oneWay(x, four, Worlds.between(x, 0, 1, 3));
        neither(x, four, Worlds.between(x, 0, 0, 3));
        neither(x, four, Worlds.between(x, 0, 2, 5));
        oneWay(x, Worlds.between(x, 0, 1, 5), four);
        int gapped = Worlds.numbered(x, 0, 1, 2, 4, 5);
        oneWay(x, gapped, Worlds.between(x, 0, 1, 2));
        oneWay(x, gapped, Worlds.between(x, 0, 4, 5));
        neither(x, gapped, Worlds.between(x, 0, 2, 4));
        oneWay(x, Worlds.between(x, 0, 1, 5), gapped);
    }

    private static void coversAtTheEdgesOfInt() {
        Check.sentence("Terms 1", "each NOTICE that there can be");
        Routes x = Worlds.oneReader();
        int any = Worlds.ranged(x, 0, ANY, 0, 0);
        same(x, any, Worlds.between(x, 0, LEAST, MOST));
        oneWay(x, any, Worlds.between(x, 0, LEAST + 1, MOST));
        oneWay(x, any, Worlds.between(x, 0, LEAST, MOST - 1));
        oneWay(x, any, Worlds.ranged(x, 0, NOT, LEAST, LEAST));
        oneWay(x, any, Worlds.ranged(x, 0, NOT, MOST, MOST));
        same(x, Worlds.ranged(x, 0, NOT, LEAST, LEAST), Worlds.between(x, 0, LEAST + 1, MOST));
        same(x, Worlds.ranged(x, 0, NOT, MOST, MOST), Worlds.between(x, 0, LEAST, MOST - 1));
        same(x, Worlds.ranged(x, 0, NOT, LEAST, MOST - 1), Worlds.numbered(x, 0, MOST));
        same(x, Worlds.ranged(x, 0, NOT, LEAST + 1, MOST), Worlds.numbered(x, 0, LEAST));
        same(x, Worlds.ranged(x, 0, NOT, LEAST + 1, MOST - 1), Worlds.numbered(x, 0, MOST, LEAST));
        same(x, Worlds.ranged(x, 0, NOT, LEAST + 2, MOST - 2),
            Worlds.numbered(x, 0, MOST, LEAST, LEAST + 1, MOST - 1));
        neither(x, Worlds.ranged(x, 0, NOT, LEAST, LEAST), Worlds.numbered(x, 0, LEAST, MOST));
        oneWay(x, Worlds.ranged(x, 0, NOT, LEAST, -1), Worlds.between(x, 0, 1, MOST));
        same(x, Worlds.ranged(x, 0, NOT, LEAST, -1), Worlds.between(x, 0, 0, MOST));
        same(x, Worlds.ranged(x, 0, NOT, 0, MOST), Worlds.between(x, 0, LEAST, -1));
        neither(x, Worlds.numbered(x, 0, LEAST), Worlds.numbered(x, 0, MOST));
    }

    private static void coversWhatNothingFits() {
        Check.sentence("Terms 1", "each NOTICE that there can be that FITS the other FITS it");
        for (int field = 0; field < 4; field++) {
            Routes x = Worlds.oneReader();
            x.test(field, NOT, LEAST, MOST);
            int none = x.wish(0);
            int[] others = {
                Worlds.ranged(x, 0, ANY, 0, 0), Worlds.between(x, 0, 1, 1),
                Worlds.ranged(x, 0, NOT, 2, 2), Worlds.numbered(x, 0, 7)};
            for (int other : others) {
                oneWay(x, other, none);
            }
            x.test(field, NOT, LEAST, MOST - 1);
            int most = x.wish(0);
            x.test(field, NOT, LEAST + 1, MOST);
            int least = x.wish(0);
            neither(x, most, least);
            oneWay(x, most, none);
            oneWay(x, least, none);
        }
    }

    private static void nothingFittingCoversOnlyItsLike() {
        Check.sentence("Terms 1", "two are SAME if each COVERS the other");
        Routes x = Worlds.oneReader();
        int[] none = new int[4];
        for (int field = 0; field < 4; field++) {
            x.test(field, NOT, LEAST, MOST);
            x.test((field + 1) % 4, BETWEEN, field, field + 1);
            none[field] = x.wish(0);
        }
        for (int a : none) {
            for (int b : none) {
                same(x, a, b);
            }
        }
    }

    private static void coversAsksEachField() {
        Check.sentence("Terms 1", "each NOTICE that there can be that FITS the other FITS it");
        Routes x = Worlds.oneReader();
        for (int field = 0; field < 4; field++) {
            x.test(field, BETWEEN, 1, 5);
        }
        int range = x.wish(0);
        for (int field = 0; field < 4; field++) {
            for (int other = 0; other < 4; other++) {
                x.test(other, BETWEEN, 2, 5);
            }
            x.test(field, BETWEEN, 0, 5);
            neither(x, range, x.wish(0));
            for (int other = 0; other < 4; other++) {
                x.test(other, BETWEEN, 1, 5);
            }
            x.test(field, BETWEEN, 1, 4);
            oneWay(x, range, x.wish(0));
        }
    }

    private static void sameInDifferentWords() {
        Check.sentence("Terms 1", "two are SAME if each COVERS the other");
        Routes x = Worlds.oneReader();
        same(x, Worlds.numbered(x, 0, 6), Worlds.between(x, 0, 6, 6));
        same(x, Worlds.numbered(x, 0, 6, 7), Worlds.between(x, 0, 6, 7));
        same(x, Worlds.ranged(x, 0, NOT, LEAST, 5), Worlds.between(x, 0, 6, MOST));
        oneWay(x, Worlds.between(x, 0, 6, 8), Worlds.numbered(x, 0, 6, 8));
    }

    /** Near the least and the greatest int, every pair of many tests against every number that tells them apart. */
    private static void coversAgreesWithFits() {
        Check.sentence("Terms 1", "if each NOTICE that there can be that FITS the other FITS it");
        int[] edge = {LEAST, LEAST + 1, LEAST + 2, 0, MOST - 1, MOST};
        int[][] ranges = new int[21][];
        int made = 0;
        for (int i = 0; i < edge.length; i++) {
            for (int j = i; j < edge.length; j++) {
                ranges[made] = new int[] {edge[i], edge[j]};
                made++;
            }
        }
        for (int[] first : ranges) {
            for (int kind = 1; kind <= 2; kind++) {
                agrees(kind, first, ranges);
            }
        }
    }

    private static void agrees(int kind, int[] first, int[][] ranges) {
        for (int otherKind = 1; otherKind <= 2; otherKind++) {
            for (int[] other : ranges) {
                Routes x = Worlds.oneReader();
                int a = Worlds.ranged(x, 0, kind, first[0], first[1]);
                int b = Worlds.ranged(x, 0, otherKind, other[0], other[1]);
                boolean covers = true;
                for (int n : new int[] {LEAST, LEAST + 1, LEAST + 2, LEAST + 3, -1, 0, 1, MOST - 2, MOST - 1, MOST}) {
                    covers &= x.fits(b, n, 0, 0, 0) == 0 || x.fits(a, n, 0, 0, 0) == 1;
                }
                Check.due("covers of kinds " + kind + ", " + otherKind + " (" + first[0] + ", " + first[1] + "), ("
                    + other[0] + ", " + other[1] + ")", x.covers(a, b), covers ? 1 : 0);
            }
        }
    }
}
