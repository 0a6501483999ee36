import java.util.ArrayList;
import java.util.HashMap;
import java.util.HashSet;
import java.util.LinkedList;
import java.util.List;
import java.util.Map;
import java.util.Set;
import java.util.TreeSet;

/** The document word for word, with no care for speed or room: what WishRoutes is compared with. */
final class PlainModel {
    private record Test(int kind, List<Integer> numbers) {
        boolean passes(long v) {
            return switch (kind) {
                case 0 -> true;
                case 1 -> v >= numbers.get(0) && v <= numbers.get(1);
                case 2 -> !(v >= numbers.get(0) && v <= numbers.get(1));
                default -> numbers.contains((int) v);
            };
        }

        /** Numbers of which one is in each stretch that passes or fails as a whole. */
        Set<Long> probes() {
            Set<Long> probes = new HashSet<>();
            probes.add((long) Integer.MIN_VALUE);
            probes.add((long) Integer.MAX_VALUE);
            for (int n : numbers) {
                for (long near = n - 1L; near <= n + 1L; near++) {
                    if (near == (int) near) {
                        probes.add(near);
                    }
                }
            }
            return probes;
        }
    }

    private static final class Wish {
        int reader;
        boolean alive = true;
        List<Test> tests;
    }

    private static final class Notice {
        int[] fields;
        int desk;
        Set<Integer> deskMemory = new HashSet<>();
    }

    /** A tell has a row, a notice a number. */
    private record Message(int notice, List<Integer> row) {
        boolean isTell() {
            return row != null;
        }
    }

    private record Way(int from, int to) {
    }

    private static final Test ANY = new Test(0, List.of());

    private int desks = 0;
    private final List<Integer> readerDesks = new ArrayList<>();
    private final List<List<Integer>> hearings = new ArrayList<>();
    private final List<Wish> wishes = new ArrayList<>();
    private final List<Notice> notices = new ArrayList<>();
    private final Map<Way, LinkedList<Message>> queues = new HashMap<>();
    private final Map<Way, List<Integer>> tolds = new HashMap<>();
    private final Map<Way, List<Integer>> tables = new HashMap<>();
    private final Map<Way, Boolean> coverings = new HashMap<>();
    private List<Test> reading = new ArrayList<>(List.of(ANY, ANY, ANY, ANY));
    private int passedOn = 0;
    private int needless = 0;
    private int tellsDelivered = 0;

    int desk() {
        return desks == 12 ? -8 : desks++;
    }

    int link(int u, int v) {
        if (!isDesk(u) || !isDesk(v)) {
            return -2;
        }
        if (reached(u, -1).contains(v)) {
            return -4;
        }
        for (Way way : List.of(new Way(u, v), new Way(v, u))) {
            queues.put(way, new LinkedList<>());
            tolds.put(way, List.of());
            tables.put(way, List.of());
        }
        changed(u);
        changed(v);
        return 0;
    }

    int cut(int u, int v) {
        if (!isDesk(u) || !isDesk(v)) {
            return -2;
        }
        if (!isLink(u, v)) {
            return -5;
        }
        for (Way way : List.of(new Way(u, v), new Way(v, u))) {
            queues.remove(way);
            tolds.remove(way);
            tables.remove(way);
        }
        changed(u);
        changed(v);
        return 0;
    }

    int reader(int desk) {
        if (!isDesk(desk)) {
            return -2;
        }
        if (readerDesks.size() == 24) {
            return -8;
        }
        readerDesks.add(desk);
        hearings.add(new ArrayList<>());
        return readerDesks.size() - 1;
    }

    int move(int reader, int desk) {
        if (!isIn(reader, readerDesks) || !isDesk(desk)) {
            return -2;
        }
        int old = readerDesks.get(reader);
        if (old == desk) {
            return -4;
        }
        readerDesks.set(reader, desk);
        changed(old);
        changed(desk);
        return 0;
    }

    boolean test(int field, int kind, int a, int b) {
        if (field < 0 || field > 3 || kind < 0 || kind > 2 || kind > 0 && a > b) {
            return false;
        }
        reading.set(field, kind == 0 ? ANY : new Test(kind, List.of(a, b)));
        return true;
    }

    boolean among(int field, int v) {
        if (field < 0 || field > 3) {
            return false;
        }
        Test before = reading.get(field);
        TreeSet<Integer> numbers = new TreeSet<>(before.kind() == 3 ? before.numbers() : List.of());
        if (numbers.size() == 4 || !numbers.add(v)) {
            return false;
        }
        reading.set(field, new Test(3, new ArrayList<>(numbers)));
        return true;
    }

    int wish(int reader) {
        if (!isIn(reader, readerDesks)) {
            return -2;
        }
        if (wishes.size() == 300) {
            return -8;
        }
        Wish wish = new Wish();
        wish.reader = reader;
        wish.tests = reading;
        wishes.add(wish);
        reading = new ArrayList<>(List.of(ANY, ANY, ANY, ANY));
        changed(readerDesks.get(reader));
        return wishes.size() - 1;
    }

    int off(int wish) {
        if (!isIn(wish, wishes)) {
            return -2;
        }
        if (!wishes.get(wish).alive) {
            return -4;
        }
        wishes.get(wish).alive = false;
        changed(readerDesks.get(wishes.get(wish).reader));
        return 0;
    }

    int send(int desk, int f0, int f1, int f2, int f3) {
        if (!isDesk(desk)) {
            return -2;
        }
        if (count(4) >= 60 || notices.size() >= 600) {
            return -8;
        }
        Notice notice = new Notice();
        notice.fields = new int[] {f0, f1, f2, f3};
        notice.desk = desk;
        notices.add(notice);
        arrive(notices.size() - 1, desk, -1);
        return notices.size() - 1;
    }

    int deliver(int u, int v, int n) {
        if (!isDesk(u) || !isDesk(v) || n < 0) {
            return -2;
        }
        if (!isLink(u, v)) {
            return -5;
        }
        int done = 0;
        while (done < n && !queues.get(new Way(u, v)).isEmpty()) {
            deliverOne(u, v);
            done++;
        }
        return done;
    }

    int all() {
        int done = 0;
        while (deliverLeast()) {
            done++;
        }
        return done;
    }

    int covers(int a, int b) {
        return isIn(a, wishes) && isIn(b, wishes) ? asInt(isCovering(a, b)) : -1;
    }

    int fits(int wish, int f0, int f1, int f2, int f3) {
        return isIn(wish, wishes) ? asInt(isFitting(wish, new int[] {f0, f1, f2, f3})) : -1;
    }

    int table(int u, int v, int i) {
        return at(tables.getOrDefault(new Way(u, v), List.of()), i);
    }

    int told(int u, int v, int i) {
        return at(tolds.getOrDefault(new Way(u, v), List.of()), i);
    }

    int message(int u, int v, int i) {
        List<Message> queue = queues.getOrDefault(new Way(u, v), new LinkedList<>());
        if (!isIn(i, queue)) {
            return -1;
        }
        return queue.get(i).isTell() ? -2 : queue.get(i).notice();
    }

    int heard(int reader, int i) {
        return isIn(reader, hearings) ? at(hearings.get(reader), i) : -1;
    }

    int notice(int k, int what) {
        if (!isIn(k, notices) || what < 0 || what > 5) {
            return 0;
        }
        if (what < 4) {
            return notices.get(k).fields[what];
        }
        return what == 4 ? notices.get(k).desk : copies(k);
    }

    int look(int wish, int what) {
        if (!isIn(wish, wishes)) {
            return 0;
        }
        Wish w = wishes.get(wish);
        if (what == 0) {
            return w.reader;
        }
        if (what == 1) {
            return asInt(w.alive);
        }
        for (int field = 0; field < 4; field++) {
            if (what == 2 + field) {
                return w.tests.get(field).kind();
            }
            for (int k = 0; k < w.tests.get(field).numbers().size(); k++) {
                if (what == 10 + 4 * field + k) {
                    return w.tests.get(field).numbers().get(k);
                }
            }
        }
        return 0;
    }

    int count(int what) {
        return switch (what) {
            case 0 -> desks;
            case 1 -> readerDesks.size();
            case 2 -> wishes.size();
            case 3 -> notices.size();
            case 4 -> underWay().size();
            case 5 -> queues.values().stream().mapToInt(List::size).sum();
            case 6 -> (int) queues.values().stream().flatMap(List::stream).filter(Message::isTell).count();
            case 7 -> passedOn;
            case 8 -> needless;
            case 9 -> tellsDelivered;
            case 10 -> queues.size() / 2;
            default -> -1;
        };
    }

    private static int asInt(boolean b) {
        return b ? 1 : 0;
    }

    private static boolean isIn(int i, List<?> list) {
        return i >= 0 && i < list.size();
    }

    private static int at(List<Integer> row, int i) {
        return isIn(i, row) ? row.get(i) : -1;
    }

    private boolean isDesk(int d) {
        return d >= 0 && d < desks;
    }

    private boolean isLink(int u, int v) {
        return queues.containsKey(new Way(u, v));
    }

    private Set<Integer> reached(int start, int without) {
        Set<Integer> found = new HashSet<>();
        reach(start, without, found);
        return found;
    }

    private void reach(int d, int without, Set<Integer> found) {
        if (d == without || !found.add(d)) {
            return;
        }
        for (int next = 0; next < desks; next++) {
            if (isLink(d, next)) {
                reach(next, without, found);
            }
        }
    }

    private boolean isFitting(int wish, int[] fields) {
        for (int f = 0; f < 4; f++) {
            if (!wishes.get(wish).tests.get(f).passes(fields[f])) {
                return false;
            }
        }
        return true;
    }

    private boolean isCovering(int a, int b) {
        return coverings.computeIfAbsent(new Way(a, b), way -> findCovering(wishes.get(a), wishes.get(b)));
    }

    private static boolean findCovering(Wish a, Wish b) {
        boolean each = true;
        for (int f = 0; f < 4; f++) {
            Test mine = a.tests.get(f);
            Test other = b.tests.get(f);
            Set<Long> probes = mine.probes();
            probes.addAll(other.probes());
            if (probes.stream().noneMatch(other::passes)) {
                return true;
            }
            each &= probes.stream().noneMatch(v -> other.passes(v) && !mine.passes(v));
        }
        return each;
    }

    private List<Integer> meant(int u, int v) {
        TreeSet<Integer> these = new TreeSet<>();
        for (int w = 0; w < wishes.size(); w++) {
            if (wishes.get(w).alive && readerDesks.get(wishes.get(w).reader) == u) {
                these.add(w);
            }
        }
        for (int d = 0; d < desks; d++) {
            if (d != v && isLink(u, d)) {
                these.addAll(tables.get(new Way(u, d)));
            }
        }
        List<Integer> row = new ArrayList<>();
        for (int w : these) {
            if (these.stream().noneMatch(o -> o != w && isCovering(o, w) && !(isCovering(w, o) && w < o))) {
                row.add(w);
            }
        }
        return row;
    }

    private void changed(int u) {
        for (int v = 0; v < desks; v++) {
            Way way = new Way(u, v);
            if (isLink(u, v) && !meant(u, v).equals(tolds.get(way))) {
                LinkedList<Message> queue = queues.get(way);
                if (!queue.isEmpty() && queue.getLast().isTell()) {
                    queue.removeLast();
                }
                queue.addLast(new Message(-1, meant(u, v)));
                tolds.put(way, meant(u, v));
            }
        }
    }

    private boolean deliverLeast() {
        for (int u = 0; u < desks; u++) {
            for (int v = 0; v < desks; v++) {
                if (isLink(u, v) && !queues.get(new Way(u, v)).isEmpty()) {
                    deliverOne(u, v);
                    return true;
                }
            }
        }
        return false;
    }

    private void deliverOne(int u, int v) {
        Message message = queues.get(new Way(u, v)).removeFirst();
        if (message.isTell()) {
            tellsDelivered++;
            tables.put(new Way(v, u), message.row());
            changed(v);
        } else if (!notices.get(message.notice()).deskMemory.contains(v)) {
            arrive(message.notice(), v, u);
        }
    }

    private void arrive(int k, int desk, int from) {
        Notice notice = notices.get(k);
        notice.deskMemory.add(desk);
        for (int r = 0; r < readerDesks.size(); r++) {
            if (isWanted(notice, r, Set.of(desk)) && !hearings.get(r).contains(k)) {
                hearings.get(r).add(k);
            }
        }
        for (int v = 0; v < desks; v++) {
            if (v != from && isLink(desk, v)
                    && tables.get(new Way(desk, v)).stream().anyMatch(w -> isFitting(w, notice.fields))) {
                queues.get(new Way(desk, v)).addLast(new Message(k, null));
                passedOn++;
                needless += asInt(isNeedless(notice, v, desk));
            }
        }
    }

    private boolean isNeedless(Notice notice, int v, int u) {
        for (int r = 0; r < readerDesks.size(); r++) {
            if (isWanted(notice, r, reached(v, u))) {
                return false;
            }
        }
        return true;
    }

    private boolean isWanted(Notice notice, int reader, Set<Integer> places) {
        if (!places.contains(readerDesks.get(reader))) {
            return false;
        }
        for (int w = 0; w < wishes.size(); w++) {
            if (wishes.get(w).reader == reader && wishes.get(w).alive && isFitting(w, notice.fields)) {
                return true;
            }
        }
        return false;
    }

    private Set<Integer> underWay() {
        Set<Integer> found = new HashSet<>();
        for (List<Message> queue : queues.values()) {
            for (Message message : queue) {
                if (!message.isTell()) {
                    found.add(message.notice());
                }
            }
        }
        return found;
    }

    private int copies(int k) {
        return (int) queues.values().stream().flatMap(List::stream).filter(m -> !m.isTell() && m.notice() == k).count();
    }
}
