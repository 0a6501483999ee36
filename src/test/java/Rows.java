import java.util.function.IntUnaryOperator;

/** Writes out the rows that an object answers one element at a time. */
final class Rows {
    private Rows() {
    }

    static String table(Routes x, int u, int v) {
        return written(i -> x.table(u, v, i));
    }

    static String told(Routes x, int u, int v) {
        return written(i -> x.told(u, v, i));
    }

    static String messages(Routes x, int u, int v) {
        return written(i -> x.message(u, v, i));
    }

    static String heard(Routes x, int reader) {
        return written(i -> x.heard(reader, i));
    }

    static String kinds(Routes x, int wish) {
        return answers(4, field -> x.look(wish, 2 + field));
    }

    static String numbers(Routes x, int wish, int field) {
        return answers(4, k -> x.look(wish, 10 + 4 * field + k));
    }

    static String written(IntUnaryOperator row) {
        StringBuilder text = new StringBuilder();
        int i = 0;
        // A row that never ends would be a fault, too: no row is longer than the calls of one object.
        for (int element = row.applyAsInt(0); element != WishRoutes.NONE && i < Routes.CALLS; element = row.applyAsInt(i)) {
            text.append(i == 0 ? "" : " ").append(element);
            i++;
        }
        return text.toString();
    }

    private static String answers(int size, IntUnaryOperator row) {
        StringBuilder text = new StringBuilder();
        for (int i = 0; i < size; i++) {
            text.append(i == 0 ? "" : " ").append(row.applyAsInt(i));
        }
        return text.toString();
    }
}
