import java.util.function.IntUnaryOperator;

/** Writes out the rows that an object answers one element at a time. */
final class Rows {
    private Rows() {
    }

    static String table(WishRoutes x, int u, int v) {
        return written(i -> x.table(u, v, i));
    }

    static String told(WishRoutes x, int u, int v) {
        return written(i -> x.told(u, v, i));
    }

    static String messages(WishRoutes x, int u, int v) {
        return written(i -> x.message(u, v, i));
    }

    static String heard(WishRoutes x, int reader) {
        return written(i -> x.heard(reader, i));
    }

    private static String written(IntUnaryOperator row) {
        StringBuilder text = new StringBuilder();
        for (int i = 0; row.applyAsInt(i) != WishRoutes.NONE; i++) {
            text.append(i == 0 ? "" : " ").append(row.applyAsInt(i));
        }
        return text.toString();
    }
}
