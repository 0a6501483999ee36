import java.util.function.Supplier;
import java.util.function.ToIntFunction;

/**
 * All that a world can be asked, and what it does next, written out. Questions change nothing, so a world
 * whose calls are used up is made anew, and the asking goes on.
 */
final class State {
    private static final int FULL = 300;

    private final Supplier<Routes> world;
    private final StringBuilder text = new StringBuilder();
    private Routes x;

    private State(Supplier<Routes> world) {
        this.world = world;
        x = world.get();
    }

    static String of(Supplier<Routes> world) {
        State state = new State(world);
        state.writeWhatIsThere();
        state.writePlaces();
        state.writeReading();
        state.writeFuture();
        return state.text.toString();
    }

    /** The first line in which two states differ, none if they are alike. */
    static String difference(String before, String after) {
        String[] old = before.split("\n");
        String[] now = after.split("\n");
        for (int i = 0; i < Math.min(old.length, now.length); i++) {
            if (!old[i].equals(now[i])) {
                return old[i] + " -> " + now[i];
            }
        }
        return old.length == now.length ? "" : old.length + " lines -> " + now.length;
    }

    private int ask(ToIntFunction<Routes> question) {
        if (x.left() == 0) {
            x = world.get();
        }
        return question.applyAsInt(x);
    }

    private void write(String name, int answer) {
        text.append(name).append(' ').append(answer).append('\n');
    }

    private void writeWhatIsThere() {
        for (int what = 0; what <= 10; what++) {
            int asked = what;
            write("count " + what, ask(y -> y.count(asked)));
        }
        int desks = ask(y -> y.count(0));
        for (int u = 0; u < desks; u++) {
            for (int v = 0; v < desks; v++) {
                writeWay(u, v);
            }
        }
        int readers = ask(y -> y.count(1));
        for (int r = 0; r < readers; r++) {
            int reader = r;
            text.append("heard ").append(r).append(": ");
            text.append(Rows.written(i -> ask(y -> y.heard(reader, i)))).append('\n');
        }
        writeWishes(ask(y -> y.count(2)));
        writeNotices(ask(y -> y.count(3)));
    }

    private void writeWay(int u, int v) {
        text.append(u).append(" to ").append(v).append(": ");
        text.append(Rows.written(i -> ask(y -> y.table(u, v, i)))).append(" / ");
        text.append(Rows.written(i -> ask(y -> y.told(u, v, i)))).append(" / ");
        text.append(Rows.written(i -> ask(y -> y.message(u, v, i)))).append('\n');
    }

    private void writeWishes(int wishes) {
        for (int w = 0; w < wishes; w++) {
            for (int what = 0; what < 26; what++) {
                int wish = w;
                int asked = what;
                write("look " + w + " " + what, ask(y -> y.look(wish, asked)));
            }
        }
    }

    private void writeNotices(int notices) {
        for (int k = 0; k < notices; k++) {
            for (int what = 0; what < 6; what++) {
                int notice = k;
                int asked = what;
                write("notice " + k + " " + what, ask(y -> y.notice(notice, asked)));
            }
        }
    }

    /** Where a reader is can only be seen by moving it. */
    private void writePlaces() {
        int readers = world.get().count(1);
        int desks = world.get().count(0);
        for (int r = 0; r < readers; r++) {
            for (int d = 0; d < desks; d++) {
                if (world.get().move(r, d) == -4) {
                    write("place of " + r, d);
                }
            }
        }
    }

    /** What the reading is can only be seen in a wish, or, if there are 300, by what it still takes. */
    private void writeReading() {
        if (world.get().count(2) == FULL) {
            for (int field = 0; field < 4; field++) {
                for (int v = 0; v < 6; v++) {
                    write("among " + field + " " + v, world.get().among(field, v) ? 1 : 0);
                }
            }
            return;
        }
        Routes y = world.get();
        y.desk();
        y.reader(0);
        int wish = y.wish(0);
        for (int what = 2; what < 26; what++) {
            write("reading " + what, y.look(wish, what));
        }
    }

    private void writeFuture() {
        write("all()", world.get().all());
        State later = new State(() -> {
            Routes y = world.get();
            y.all();
            return y;
        });
        later.writeWhatIsThere();
        text.append(later.text);
    }
}
