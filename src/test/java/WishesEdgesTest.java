/** The boundary cases of promises 7 to 10, 14, 15 and 21, a sentence of the document at a time. */
final class WishesEdgesTest {
    private static final int LEAST = Worlds.LEAST;
    private static final int MOST = Worlds.MOST;

    private WishesEdgesTest() {
    }

    public static void main(String[] args) {
        testOfTheFirstAndTheLastField();
        testOfNoSuchField();
        testOfNoSuchKind();
        testWithAAboveB();
        testOfAnyLooksAtNoNumbers();
        testThatIsFalseKeepsTheReading();
        amongOfTheFirstAndTheLastField();
        amongOfNoSuchField();
        amongOfWhatItHas();
        amongOfAFifth();
        amongOfAllFieldsFull();
        amongAfterAnotherKind();
        amongAfterAmongWasLeft();
        wishMakesTheReadingAllAny();
        wishKeepsWhatWasRead();
        wishOfNoSuchReader();
        wishesFromNoneToThreeHundred();
        wishesThatAreOffCountToo();
        wishThatIsRefusedKeepsTheReading();
        offOfNoSuchWish();
        offOfWhatIsOff();
        offOfTheFirstAndTheLast();
        coversOfNoSuchWish();
        coversOfWishesThatAreOff();
        coversOfTheFirstAndTheLast();
        fitsOfNoSuchWish();
        fitsOfAWishThatIsOff();
        lookOfNoSuchWish();
        lookForAnotherWhat();
        lookAtReaderAndAlive();
        lookAtKinds();
        lookAtNumbersOfBetweenAndNot();
        lookAtNumbersOfAmong();
        lookAtNumbersOfAny();
        Check.end();
    }

    private static void testOfTheFirstAndTheLastField() {
        Check.sentence("Promise 7", "The FIELD's TEST in the READING is ANY, BETWEEN or NOT: true");
        Routes x = Worlds.oneReader();
        for (int field = 0; field < 4; field++) {
            for (int kind = 0; kind <= 2; kind++) {
                Check.due("test(" + field + ", " + kind + ")", x.test(field, kind, 1 + field, 5 + field), true);
                int wish = x.wish(0);
                for (int other = 0; other < 4; other++) {
                    Check.due("kind of " + other, x.look(wish, 2 + other), other == field ? kind : 0);
                }
                String numbers = kind == 0 ? "0 0 0 0" : 1 + field + " " + (5 + field) + " 0 0";
                Check.due("numbers of " + field, Rows.numbers(x, wish, field), numbers);
            }
        }
    }

    private static void testOfNoSuchField() {
        Check.sentence("Promise 7", "false, if there is no such FIELD");
        Routes x = Worlds.oneReader();
        for (int field : Worlds.outside(4)) {
            for (int kind = 0; kind <= 2; kind++) {
                Check.due("test(" + field + ", " + kind + ")", x.test(field, kind, 1, 2), false);
            }
        }
        x.wish(0);
        Check.due("kinds", Rows.kinds(x, 0), "0 0 0 0");
    }

    private static void testOfNoSuchKind() {
        Check.sentence("Promise 7", "kind is not 0 to 2");
        Routes x = Worlds.oneReader();
        for (int field = 0; field < 4; field++) {
            for (int kind : Worlds.outside(3)) {
                Check.due("test(" + field + ", " + kind + ")", x.test(field, kind, 1, 2), false);
            }
        }
        x.wish(0);
        Check.due("kinds", Rows.kinds(x, 0), "0 0 0 0");
        Check.due("kind 0", x.test(0, 0, 1, 2), true);
        Check.due("kind 2", x.test(0, 2, 1, 2), true);
    }

    private static void testWithAAboveB() {
        Check.sentence("Promise 7", "(1, 2) a is above b");
        int[][] taken = {{0, 0}, {-1, 0}, {LEAST, LEAST}, {MOST, MOST}, {LEAST, MOST}, {MOST - 1, MOST}, {LEAST, -1}, {-1, MOST}};
        int[][] refused = {{1, 0}, {0, -1}, {MOST, LEAST}, {MOST, MOST - 1}, {LEAST + 1, LEAST}, {MOST, -1}, {0, LEAST}};
        for (int kind = 1; kind <= 2; kind++) {
            Routes x = Worlds.oneReader();
            for (int[] t : taken) {
                Check.due("test(0, " + kind + ", " + t[0] + ", " + t[1] + ")", x.test(0, kind, t[0], t[1]), true);
                int wish = x.wish(0);
                Check.due("numbers", Rows.numbers(x, wish, 0), t[0] + " " + t[1] + " 0 0");
            }
            for (int[] t : refused) {
                Check.due("test(0, " + kind + ", " + t[0] + ", " + t[1] + ")", x.test(0, kind, t[0], t[1]), false);
                int wish = x.wish(0);
                Check.due("kind", x.look(wish, 2), 0);
            }
        }
    }

    private static void testOfAnyLooksAtNoNumbers() {
        Check.sentence("Promise 7", "(1, 2) a is above b");
        Routes x = Worlds.oneReader();
        Check.due("test(0, 0, 1, 0)", x.test(0, 0, 1, 0), true);
        Check.due("test(1, 0, most, least)", x.test(1, 0, MOST, LEAST), true);
        Check.due("test(2, 0, 5, 5)", x.test(2, 0, 5, 5), true);
        x.wish(0);
        Check.due("kinds", Rows.kinds(x, 0), "0 0 0 0");
        Check.due("numbers of 1", Rows.numbers(x, 0, 1), "0 0 0 0");
        Check.due("fits what is outside", x.fits(0, 0, 0, 0, 0), 1);
    }

    private static void testThatIsFalseKeepsTheReading() {
        Check.sentence("Promise 7", "Each call that is refused .. changes nothing");
        Routes x = Worlds.oneReader();
        x.test(0, 1, 3, 4);
        x.test(1, 2, 5, 6);
        x.among(2, 7);
        for (int field = -1; field <= 4; field++) {
            x.test(field, 3, 1, 2);
            x.test(field, -1, 1, 2);
            x.test(field, 1, 2, 1);
            x.test(field, 2, 2, 1);
        }
        x.wish(0);
        Check.due("kinds", Rows.kinds(x, 0), "1 2 3 0");
        Check.due("numbers of 0", Rows.numbers(x, 0, 0), "3 4 0 0");
        Check.due("numbers of 1", Rows.numbers(x, 0, 1), "5 6 0 0");
        Check.due("numbers of 2", Rows.numbers(x, 0, 2), "7 0 0 0");
    }

    private static void amongOfTheFirstAndTheLastField() {
        Check.sentence("Promise 8", "The FIELD's TEST in the READING is AMONG, of v .. true");
        for (int field = 0; field < 4; field++) {
            Routes x = Worlds.oneReader();
            for (int v : new int[] {LEAST, -1, 0, MOST}) {
                Check.due("among(" + field + ", " + v + ")", x.among(field, v), true);
                int wish = x.wish(0);
                for (int other = 0; other < 4; other++) {
                    Check.due("kind of " + other, x.look(wish, 2 + other), other == field ? 3 : 0);
                }
                Check.due("numbers of " + field, Rows.numbers(x, wish, field), v + " 0 0 0");
            }
        }
    }

    private static void amongOfNoSuchField() {
        Check.sentence("Promise 8", "false, if there is no such FIELD");
        Routes x = Worlds.oneReader();
        for (int field : Worlds.outside(4)) {
            Check.due("among(" + field + ", 1)", x.among(field, 1), false);
        }
        x.wish(0);
        Check.due("kinds", Rows.kinds(x, 0), "0 0 0 0");
    }

    private static void amongOfWhatItHas() {
        Check.sentence("Promise 8", "it has v");
        Routes x = Worlds.oneReader();
        int[] numbers = {0, MOST, LEAST, -1};
        for (int i = 0; i < numbers.length; i++) {
            Check.due("among(0, " + numbers[i] + ")", x.among(0, numbers[i]), true);
            for (int j = 0; j <= i; j++) {
                Check.due("among(0, " + numbers[j] + ") again", x.among(0, numbers[j]), false);
            }
        }
        Check.due("another field has it not", x.among(1, 0), true);
        x.wish(0);
        Check.due("numbers", Rows.numbers(x, 0, 0), LEAST + " -1 0 " + MOST);
        Check.due("the next reading has it not", x.among(0, 0), true);
    }

    private static void amongOfAFifth() {
        Check.sentence("Promise 8", "or has 4");
        Routes x = Worlds.oneReader();
        for (int v = 4; v >= 1; v--) {
            Check.due("among(3, " + v + ")", x.among(3, v), true);
        }
        for (int v : new int[] {5, 0, LEAST, MOST}) {
            Check.due("among(3, " + v + "), the fifth", x.among(3, v), false);
        }
        x.wish(0);
        Check.due("numbers", Rows.numbers(x, 0, 3), "1 2 3 4");
        for (int v : new int[] {5, 0, LEAST, MOST}) {
            Check.due("what was refused does not fit", x.fits(0, 0, 0, 0, v), 0);
        }
    }

    private static void amongOfAllFieldsFull() {
        Check.sentence("Promise 8", "or has 4");
        Routes x = Worlds.oneReader();
        for (int v = 0; v < 5; v++) {
            for (int field = 0; field < 4; field++) {
                Check.due("among(" + field + ", " + (10 * field + v) + ")", x.among(field, 10 * field + v), v < 4);
            }
        }
        x.wish(0);
        Check.due("kinds", Rows.kinds(x, 0), "3 3 3 3");
        for (int field = 0; field < 4; field++) {
            int n = 10 * field;
            String due = n + " " + (n + 1) + " " + (n + 2) + " " + (n + 3);
            Check.due("numbers of " + field, Rows.numbers(x, 0, field), due);
        }
    }

    private static void amongAfterAnotherKind() {
        Check.sentence("Promise 8", "if it is AMONG already, of those of before");
        for (int kind = 0; kind <= 2; kind++) {
            Routes x = Worlds.oneReader();
            x.test(0, kind, 5, 9);
            Check.due("among(0, 5) after " + kind, x.among(0, 5), true);
            Check.due("among(0, 9) after " + kind, x.among(0, 9), true);
            Check.due("among(0, 1) after " + kind, x.among(0, 1), true);
            Check.due("among(0, 7) after " + kind, x.among(0, 7), true);
            Check.due("among(0, 8) after " + kind, x.among(0, 8), false);
            x.wish(0);
            Check.due("kinds", Rows.kinds(x, 0), "3 0 0 0");
            Check.due("numbers", Rows.numbers(x, 0, 0), "1 5 7 9");
        }
    }

    private static void amongAfterAmongWasLeft() {
        Check.sentence("Promise 8", "if it is AMONG already, of those of before");
        for (int kind = 0; kind <= 2; kind++) {
            Routes x = Worlds.oneReader();
            for (int v = 1; v <= 4; v++) {
                x.among(2, v);
            }
            Check.due("test of a field that has 4", x.test(2, kind, 2, 3), true);
            Check.due("among of one of before", x.among(2, 3), true);
            x.wish(0);
            Check.due("numbers", Rows.numbers(x, 0, 2), "3 0 0 0");
        }
    }

    private static void wishMakesTheReadingAllAny() {
        Check.sentence("Promise 9", "(the READING is all ANY then)");
        Routes x = Worlds.oneReader();
        x.test(0, 1, 1, 2);
        x.test(1, 2, 1, 2);
        x.among(2, 1);
        x.among(3, 1);
        x.wish(0);
        x.wish(0);
        Check.due("kinds of the first", Rows.kinds(x, 0), "1 2 3 3");
        Check.due("kinds of the second", Rows.kinds(x, 1), "0 0 0 0");
        for (int field = 0; field < 4; field++) {
            Check.due("numbers of " + field, Rows.numbers(x, 1, field), "0 0 0 0");
        }
        Check.due("the second fits all", x.fits(1, 99, 1, 99, 99), 1);
    }

    private static void wishKeepsWhatWasRead() {
        Check.sentence("Promise 9", "The READING is a WISH of the READER");
        Routes x = Worlds.oneReader();
        x.among(0, 3);
        x.wish(0);
        x.among(0, 4);
        x.among(0, 2);
        x.wish(0);
        x.test(0, 1, 7, 8);
        Check.due("the first one's kind", x.look(0, 2), 3);
        Check.due("the first one's numbers", Rows.numbers(x, 0, 0), "3 0 0 0");
        Check.due("the second one's numbers", Rows.numbers(x, 1, 0), "2 4 0 0");
        Check.due("the first one fits 3", x.fits(0, 3, 0, 0, 0), 1);
        Check.due("the first one fits 4", x.fits(0, 4, 0, 0, 0), 0);
    }

    private static void wishOfNoSuchReader() {
        Check.sentence("Promise 9", "-2: there is no such READER");
        for (int readers : new int[] {0, 1, 24}) {
            Routes x = Worlds.desks(1);
            for (int r = 0; r < readers; r++) {
                x.reader(0);
            }
            for (int r : Worlds.outside(readers)) {
                Check.due("wish(" + r + ") of " + readers, x.wish(r), -2);
            }
            Check.due("wishes", x.count(2), 0);
            Check.due("wish of the last", x.wish(readers - 1), readers == 0 ? -2 : 0);
        }
    }

    private static void wishesFromNoneToThreeHundred() {
        Check.sentence("Promise 9", "its number .. -8: there are 300");
        Routes x = Worlds.desks(1);
        x.reader(0);
        x.reader(0);
        for (int w = 0; w < 299; w++) {
            Check.due("wish", x.wish(0), w);
        }
        x.test(3, 1, 6, 6);
        Check.due("the 300th wish", x.wish(1), 299);
        Check.due("the 301st wish", x.wish(0), -8);
        Check.due("the 302nd wish", x.wish(1), -8);
        Check.due("the 301st wish of no reader", x.wish(2), -2);
        Check.due("wishes", x.count(2), 300);
        Check.due("the last one's reader", x.look(299, 0), 1);
        Check.due("the last one's test", x.look(299, 5), 1);
        Check.due("the last one is ALIVE", x.look(299, 1), 1);
        Check.due("none beyond", x.look(300, 1), 0);
        Check.due("a notice for the first reader alone", x.send(0, 6, 6, 6, 5), 0);
        Check.due("a notice for the last wish, too", x.send(0, 5, 5, 5, 6), 1);
        Check.due("heard by the last wish", Rows.heard(x, 1), "1");
    }

    private static void wishesThatAreOffCountToo() {
        Check.sentence("Promise 9", "-8: there are 300");
        Routes x = Worlds.oneReader();
        for (int w = 0; w < 300; w++) {
            x.wish(0);
        }
        for (int w = 0; w < 100; w++) {
            Check.due("off", x.off(w), 0);
        }
        Check.due("wish beyond 300, 100 of them OFF", x.wish(0), -8);
        Check.due("wishes", x.count(2), 300);
    }

    private static void wishThatIsRefusedKeepsTheReading() {
        Check.sentence("Promise 9", "Each call that is refused .. changes nothing");
        Routes x = Worlds.oneReader();
        x.among(0, 1);
        x.among(0, 2);
        Check.due("wish of no reader", x.wish(1), -2);
        Check.due("among of what it has", x.among(0, 1), false);
        Check.due("wish", x.wish(0), 0);
        Check.due("numbers", Rows.numbers(x, 0, 0), "1 2 0 0");
        for (int w = 1; w < 300; w++) {
            x.wish(0);
        }
        x.among(1, 8);
        Check.due("wish beyond 300", x.wish(0), -8);
        Check.due("among of what it has", x.among(1, 8), false);
    }

    private static void offOfNoSuchWish() {
        Check.sentence("Promise 10", "-2: there is no such WISH");
        for (int wishes : new int[] {0, 1, 300}) {
            Routes x = Worlds.oneReader();
            for (int w = 0; w < wishes; w++) {
                x.wish(0);
            }
            for (int w : Worlds.outside(wishes)) {
                Check.due("off(" + w + ") of " + wishes, x.off(w), -2);
            }
            Check.due("off of the last", x.off(wishes - 1), wishes == 0 ? -2 : 0);
        }
    }

    private static void offOfWhatIsOff() {
        Check.sentence("Promise 10", "-4: it is OFF");
        Routes x = Worlds.oneReader();
        x.wish(0);
        x.wish(0);
        Check.due("off(0)", x.off(0), 0);
        Check.due("off(0) again", x.off(0), -4);
        Check.due("off(0) once more", x.off(0), -4);
        Check.due("the other is ALIVE", x.look(1, 1), 1);
        Check.due("off(1)", x.off(1), 0);
        Check.due("off(1) again", x.off(1), -4);
        Check.due("wishes", x.count(2), 2);
        Check.due("the next wish's number", x.wish(0), 2);
    }

    private static void offOfTheFirstAndTheLast() {
        Check.sentence("Promise 10", "The WISH is OFF: 0");
        Routes x = Worlds.oneReader();
        for (int w = 0; w < 300; w++) {
            x.wish(0);
        }
        Check.due("off(0)", x.off(0), 0);
        Check.due("off(299)", x.off(299), 0);
        Check.due("look(0, 1)", x.look(0, 1), 0);
        Check.due("look(299, 1)", x.look(299, 1), 0);
        Check.due("look(1, 1)", x.look(1, 1), 1);
        Check.due("look(298, 1)", x.look(298, 1), 1);
    }

    private static void coversOfNoSuchWish() {
        Check.sentence("Promise 14", "NONE, if there is no such WISH");
        for (int wishes : new int[] {0, 1, 300}) {
            Routes x = Worlds.oneReader();
            for (int w = 0; w < wishes; w++) {
                x.wish(0);
            }
            for (int w : Worlds.outside(wishes)) {
                Check.due("covers(" + w + ", 0) of " + wishes, x.covers(w, 0), -1);
                Check.due("covers(0, " + w + ") of " + wishes, x.covers(0, w), -1);
                Check.due("covers(" + w + ", itself) of " + wishes, x.covers(w, w), -1);
            }
        }
    }

    private static void coversOfWishesThatAreOff() {
        Check.sentence("Promise 14", "(1, 0; ALIVE or not)");
        Routes x = Worlds.oneReader();
        Worlds.between(x, 0, 1, 9);
        Worlds.between(x, 0, 2, 3);
        for (int off = -1; off < 2; off++) {
            x.off(off);
            Check.due("covers(0, 1) after off " + off, x.covers(0, 1), 1);
            Check.due("covers(1, 0) after off " + off, x.covers(1, 0), 0);
            Check.due("covers(0, 0) after off " + off, x.covers(0, 0), 1);
        }
    }

    private static void coversOfTheFirstAndTheLast() {
        Check.sentence("Promise 14", "Whether WISH a COVERS b");
        Routes x = Worlds.oneReader();
        Worlds.between(x, 0, 1, 1);
        for (int w = 1; w < 300; w++) {
            x.wish(0);
        }
        Check.due("covers(299, 0)", x.covers(299, 0), 1);
        Check.due("covers(0, 299)", x.covers(0, 299), 0);
        Check.due("covers(299, 299)", x.covers(299, 299), 1);
    }

    private static void fitsOfNoSuchWish() {
        Check.sentence("Promise 15", "NONE, if there is no such WISH");
        for (int wishes : new int[] {0, 1, 300}) {
            Routes x = Worlds.oneReader();
            for (int w = 0; w < wishes; w++) {
                x.wish(0);
            }
            for (int w : Worlds.outside(wishes)) {
                Check.due("fits(" + w + ") of " + wishes, x.fits(w, 0, 0, 0, 0), -1);
            }
            Check.due("fits of the last", x.fits(wishes - 1, LEAST, MOST, -1, 0), wishes == 0 ? -1 : 1);
        }
    }

    private static void fitsOfAWishThatIsOff() {
        Check.sentence("Promise 15", "Whether a NOTICE with such FIELDS FITS a WISH (1, 0)");
        Routes x = Worlds.oneReader();
        Worlds.between(x, 0, 1, 9);
        x.off(0);
        Check.due("fits(0, 9)", x.fits(0, 9, 0, 0, 0), 1);
        Check.due("fits(0, 10)", x.fits(0, 10, 0, 0, 0), 0);
        Check.due("no notice was sent by it", x.count(3), 0);
    }

    /** A wish that answers other than 0 wherever there is something to answer. */
    private static Routes wishWithoutZeros() {
        Routes x = Worlds.desks(1);
        x.reader(0);
        x.reader(0);
        for (int field = 0; field < 4; field++) {
            for (int v = 1; v <= 4; v++) {
                x.among(field, 10 * field + v);
            }
        }
        x.wish(1);
        return x;
    }

    private static void lookOfNoSuchWish() {
        Check.sentence("Promise 21", "0 if there is none such");
        Routes x = wishWithoutZeros();
        for (int wish : Worlds.outside(1)) {
            for (int what = 0; what < 26; what++) {
                Check.due("look(" + wish + ", " + what + ")", x.look(wish, what), 0);
            }
        }
    }

    private static void lookForAnotherWhat() {
        Check.sentence("Promise 21", "0 .. for another what");
        Routes x = wishWithoutZeros();
        for (int what : new int[] {-1, -2, 6, 7, 8, 9, 26, 27, 28, 42, LEAST, LEAST + 9, LEAST + 10, MOST - 1, MOST}) {
            Check.due("look(0, " + what + ")", x.look(0, what), 0);
        }
        for (int what = 0; what < 26; what++) {
            Check.due("look(0, " + what + ") is not 0", x.look(0, what) != 0, what < 6 || what >= 10);
        }
    }

    private static void lookAtReaderAndAlive() {
        Check.sentence("Promise 21", "0 its READER, 1 whether it is ALIVE (1, 0)");
        Routes x = Worlds.desks(2);
        for (int r = 0; r < 24; r++) {
            x.reader(0);
        }
        x.wish(0);
        x.wish(23);
        Check.due("the first reader", x.look(0, 0), 0);
        Check.due("the last reader", x.look(1, 0), 23);
        x.move(23, 1);
        Check.due("the last reader, moved", x.look(1, 0), 23);
        Check.due("ALIVE", x.look(1, 1), 1);
        x.off(1);
        Check.due("OFF", x.look(1, 1), 0);
        Check.due("the reader of one that is OFF", x.look(1, 0), 23);
    }

    private static void lookAtKinds() {
        Check.sentence("Promise 21", "2 + field the kind of its TEST");
        for (int shift = 0; shift < 4; shift++) {
            Routes x = Worlds.oneReader();
            x.test((1 + shift) % 4, 1, 1, 1);
            x.test((2 + shift) % 4, 2, 1, 1);
            x.among((3 + shift) % 4, 1);
            x.wish(0);
            for (int kind = 0; kind < 4; kind++) {
                int field = (kind + shift) % 4;
                Check.due("look(0, " + (2 + field) + ")", x.look(0, 2 + field), kind);
            }
        }
    }

    private static void lookAtNumbersOfBetweenAndNot() {
        Check.sentence("Promise 21", "10 + 4 * field + k: BETWEEN, NOT: a (k 0), b (1) .. else 0");
        for (int kind = 1; kind <= 2; kind++) {
            Routes x = Worlds.oneReader();
            x.test(0, kind, LEAST, MOST);
            x.test(1, kind, -5, -5);
            x.test(2, kind, 7, MOST);
            x.test(3, kind, LEAST, -1);
            x.wish(0);
            Check.due("numbers of 0", Rows.numbers(x, 0, 0), LEAST + " " + MOST + " 0 0");
            Check.due("numbers of 1", Rows.numbers(x, 0, 1), "-5 -5 0 0");
            Check.due("numbers of 2", Rows.numbers(x, 0, 2), "7 " + MOST + " 0 0");
            Check.due("numbers of 3", Rows.numbers(x, 0, 3), LEAST + " -1 0 0");
        }
    }

    private static void lookAtNumbersOfAmong() {
        Check.sentence("Promise 21", "AMONG: its numbers, the least first, as many as there are; else 0");
        Routes x = Worlds.oneReader();
        x.among(0, 9);
        x.among(1, 9);
        x.among(1, -9);
        x.among(2, MOST);
        x.among(2, LEAST);
        x.among(2, 1);
        x.among(3, 2);
        x.among(3, MOST);
        x.among(3, -2);
        x.among(3, LEAST);
        x.wish(0);
        Check.due("one", Rows.numbers(x, 0, 0), "9 0 0 0");
        Check.due("two", Rows.numbers(x, 0, 1), "-9 9 0 0");
        Check.due("three", Rows.numbers(x, 0, 2), LEAST + " 1 " + MOST + " 0");
        Check.due("four", Rows.numbers(x, 0, 3), LEAST + " -2 2 " + MOST);
        Routes y = Worlds.oneReader();
        for (int v = 1; v <= 3; v++) {
            y.among(0, v);
        }
        y.test(0, 1, 8, 9);
        y.wish(0);
        Check.due("none of those of before stays", Rows.numbers(y, 0, 0), "8 9 0 0");
    }

    private static void lookAtNumbersOfAny() {
        Check.sentence("Promise 21", "else 0");
        Routes x = Worlds.oneReader();
        for (int field = 0; field < 4; field++) {
            x.test(field, 1, 3, 4);
            x.test(field, 0, 5, 6);
        }
        x.wish(0);
        for (int what = 10; what < 26; what++) {
            Check.due("look(0, " + what + ")", x.look(0, what), 0);
        }
    }
}
