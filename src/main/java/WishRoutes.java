import java.util.ArrayList;

/** Desks in trees that tell one another wishes and carry notices only towards wishes they were told. */
public final class WishRoutes {
    public static final int NONE = -1;

    private static final int MAX_DESKS = 12;
    private static final int MAX_READERS = 24;
    private static final int MAX_WISHES = 300;
    private static final int MAX_NOTICES = 600;
    private static final int MAX_UNDER_WAY = 60;
    private static final int FIELDS = 4;
    private static final int MAX_NUMBERS = 4;

    private static final int ANY = 0;
    private static final int BETWEEN = 1;
    private static final int NOT = 2;
    private static final int AMONG = 3;

    private static final int DONE = 0;
    private static final int UNKNOWN = -2;
    private static final int ALREADY = -4;
    private static final int NOT_LINKED = -5;
    private static final int FULL = -8;

    /** What a lane holds in place of a notice's number, and what message() answers for it. */
    private static final int TELL = -2;

    /** A notice is in a lane once at most, and no two tells stand side by side: 60 + 61 messages. */
    private static final int LANE_ROOM = 2 * MAX_UNDER_WAY + 1;

    private static final int WORD_BITS = 64;
    private static final int ROW_WORDS = (MAX_WISHES + WORD_BITS - 1) / WORD_BITS;

    /** Messages only move away from where they began, so a run ends far below this. */
    private static final int MAX_DELIVERIES = 1000000;

    private final ArrayList<Reader> readers = new ArrayList<Reader>();
    private final ArrayList<Wish> wishes = new ArrayList<Wish>();
    private final ArrayList<Notice> notices = new ArrayList<Notice>();
    private final int[] neighbours = new int[MAX_DESKS];
    private final Lane[] lanes = new Lane[MAX_DESKS * MAX_DESKS];
    private final ArrayList<Lane> spareLanes = new ArrayList<Lane>();
    private final Row known = new Row();
    private final Row meant = new Row();
    private FieldTest[] reading = allAny();
    private int desks = 0;
    private int links = 0;
    private int passedOn = 0;
    private int needless = 0;
    private int tellsDelivered = 0;

    public WishRoutes() {
    }

    public int desk() {
        if (desks >= MAX_DESKS) {
            return FULL;
        }
        desks++;
        return desks - 1;
    }

    public int link(int u, int v) {
        if (!isDesk(u) || !isDesk(v)) {
            return UNKNOWN;
        }
        if (inMask(reach(u, NONE), v)) {
            return ALREADY;
        }
        openLane(u, v);
        openLane(v, u);
        links++;
        tellNeighbours(u);
        tellNeighbours(v);
        return DONE;
    }

    public int cut(int u, int v) {
        if (!isDesk(u) || !isDesk(v)) {
            return UNKNOWN;
        }
        if (laneFrom(u, v) == null) {
            return NOT_LINKED;
        }
        closeLane(u, v);
        closeLane(v, u);
        links--;
        tellNeighbours(u);
        tellNeighbours(v);
        return DONE;
    }

    public int reader(int desk) {
        if (!isDesk(desk)) {
            return UNKNOWN;
        }
        if (readers.size() >= MAX_READERS) {
            return FULL;
        }
        readers.add(new Reader(desk));
        return readers.size() - 1;
    }

    public int move(int reader, int desk) {
        Reader mover = findReader(reader);
        if (mover == null || !isDesk(desk)) {
            return UNKNOWN;
        }
        if (mover.desk == desk) {
            return ALREADY;
        }
        int left = mover.desk;
        mover.desk = desk;
        tellNeighbours(left);
        tellNeighbours(desk);
        return DONE;
    }

    public boolean test(int field, int kind, int a, int b) {
        if (!isField(field) || kind < ANY || kind > NOT) {
            return false;
        }
        if (kind != ANY && a > b) {
            return false;
        }
        reading[field].setKind(kind, a, b);
        return true;
    }

    public boolean among(int field, int v) {
        return isField(field) && reading[field].addNumber(v);
    }

    public int wish(int reader) {
        Reader owner = findReader(reader);
        if (owner == null) {
            return UNKNOWN;
        }
        if (wishes.size() >= MAX_WISHES) {
            return FULL;
        }
        Wish made = new Wish(reader, owner, reading);
        reading = allAny();
        weigh(made, wishes.size());
        wishes.add(made);
        tellNeighbours(owner.desk);
        return wishes.size() - 1;
    }

    public int off(int wish) {
        Wish ended = findWish(wish);
        if (ended == null) {
            return UNKNOWN;
        }
        if (!ended.alive) {
            return ALREADY;
        }
        ended.alive = false;
        tellNeighbours(ended.owner.desk);
        return DONE;
    }

    public int send(int desk, int f0, int f1, int f2, int f3) {
        if (!isDesk(desk)) {
            return UNKNOWN;
        }
        if (notices.size() >= MAX_NOTICES || underWay() >= MAX_UNDER_WAY) {
            return FULL;
        }
        int number = notices.size();
        Notice sent = new Notice(number, desk, new int[] {f0, f1, f2, f3});
        notices.add(sent);
        letHear(sent, desk);
        passOn(sent, desk, NONE);
        return number;
    }

    public int deliver(int u, int v, int n) {
        if (!isDesk(u) || !isDesk(v) || n < 0) {
            return UNKNOWN;
        }
        Lane lane = laneFrom(u, v);
        if (lane == null) {
            return NOT_LINKED;
        }
        int delivered = 0;
        while (delivered < n && delivered < MAX_DELIVERIES && lane.size > 0) {
            deliverFirst(u, v);
            delivered++;
        }
        return delivered;
    }

    public int all() {
        int delivered = 0;
        int place = firstBusyPlace();
        while (place != NONE && delivered < MAX_DELIVERIES) {
            deliverFirst(place / MAX_DESKS, place % MAX_DESKS);
            delivered++;
            place = firstBusyPlace();
        }
        return delivered;
    }

    public int covers(int a, int b) {
        Wish wide = findWish(a);
        Wish narrow = findWish(b);
        if (wide == null || narrow == null) {
            return NONE;
        }
        return wide.takesIn(narrow) ? 1 : 0;
    }

    public int fits(int wish, int f0, int f1, int f2, int f3) {
        Wish asked = findWish(wish);
        if (asked == null) {
            return NONE;
        }
        return asked.isMetBy(new int[] {f0, f1, f2, f3}) ? 1 : 0;
    }

    public int table(int u, int v, int i) {
        Lane lane = laneFrom(v, u);
        return lane == null ? NONE : lane.table.nth(i);
    }

    public int told(int u, int v, int i) {
        Lane lane = laneFrom(u, v);
        return lane == null ? NONE : lane.told.nth(i);
    }

    public int message(int u, int v, int i) {
        Lane lane = laneFrom(u, v);
        return lane == null ? NONE : lane.itemAt(i);
    }

    public int heard(int reader, int i) {
        Reader asked = findReader(reader);
        return asked == null ? NONE : asked.nthHeard(i);
    }

    public int notice(int k, int what) {
        Notice asked = findNotice(k);
        if (asked == null) {
            return 0;
        }
        if (isField(what)) {
            return asked.fields[what];
        }
        switch (what) {
            case 4: return asked.desk;
            case 5: return asked.messages;
            default: return 0;
        }
    }

    public int look(int wish, int what) {
        Wish asked = findWish(wish);
        if (asked == null) {
            return 0;
        }
        if (what == 0) {
            return asked.reader;
        }
        if (what == 1) {
            return asked.alive ? 1 : 0;
        }
        if (what >= 2 && what < 2 + FIELDS) {
            return asked.tests[what - 2].kind;
        }
        if (what >= 10 && what < 10 + FIELDS * MAX_NUMBERS) {
            int place = what - 10;
            return asked.tests[place / MAX_NUMBERS].numberAt(place % MAX_NUMBERS);
        }
        return 0;
    }

    public int count(int what) {
        switch (what) {
            case 0: return desks;
            case 1: return readers.size();
            case 2: return wishes.size();
            case 3: return notices.size();
            case 4: return underWay();
            case 5: return messagesInLanes();
            case 6: return tellsInLanes();
            case 7: return passedOn;
            case 8: return needless;
            case 9: return tellsDelivered;
            case 10: return links;
            default: return NONE;
        }
    }

    private static FieldTest[] allAny() {
        FieldTest[] tests = new FieldTest[FIELDS];
        for (int f = 0; f < FIELDS; f++) {
            tests[f] = new FieldTest();
        }
        return tests;
    }

    private static boolean isField(int field) {
        return field >= 0 && field < FIELDS;
    }

    private static boolean inMask(int mask, int desk) {
        return (mask >> desk & 1) != 0;
    }

    private boolean isDesk(int desk) {
        return desk >= 0 && desk < desks;
    }

    private Reader findReader(int reader) {
        return reader >= 0 && reader < readers.size() ? readers.get(reader) : null;
    }

    private Wish findWish(int wish) {
        return wish >= 0 && wish < wishes.size() ? wishes.get(wish) : null;
    }

    private Notice findNotice(int number) {
        return number >= 0 && number < notices.size() ? notices.get(number) : null;
    }

    /** The lane from u to v, null if they are not two linked desks. */
    private Lane laneFrom(int u, int v) {
        return isDesk(u) && isDesk(v) ? lanes[u * MAX_DESKS + v] : null;
    }

    /** Lanes of links that were cut are used again, so that at most 22 are ever made. */
    private void openLane(int u, int v) {
        int spare = spareLanes.size();
        lanes[u * MAX_DESKS + v] = spare > 0 ? spareLanes.remove(spare - 1) : new Lane();
        neighbours[u] |= 1 << v;
    }

    private void closeLane(int u, int v) {
        Lane lane = laneFrom(u, v);
        if (lane == null) {
            return;
        }
        for (int i = 0; i < lane.size; i++) {
            Notice lost = findNotice(lane.itemAt(i));
            if (lost != null) {
                lost.messages--;
            }
        }
        lane.clear();
        spareLanes.add(lane);
        lanes[u * MAX_DESKS + v] = null;
        neighbours[u] &= ~(1 << v);
    }

    /** The mask of the desks to which there is a way from start that does not go by barred. */
    private int reach(int start, int barred) {
        int shut = barred == NONE ? 0 : 1 << barred;
        int found = 1 << start;
        int fresh = found;
        for (int round = 0; round < MAX_DESKS && fresh != 0; round++) {
            int near = 0;
            for (int d = 0; d < desks; d++) {
                if (inMask(fresh, d)) {
                    near |= neighbours[d];
                }
            }
            fresh = near & ~found & ~shut;
            found |= fresh;
        }
        return found;
    }

    /** Which wish outdoes which never changes, so it is found once, as the wish is made. */
    private void weigh(Wish made, int number) {
        for (int w = 0; w < wishes.size(); w++) {
            Wish older = wishes.get(w);
            if (older.takesIn(made)) {
                made.outdoneBy.add(w);
            } else if (made.takesIn(older)) {
                older.outdoneBy.add(number);
            }
        }
    }

    private void tellNeighbours(int u) {
        for (int v = 0; v < desks; v++) {
            Lane lane = laneFrom(u, v);
            if (lane != null) {
                findMeant(u, v);
                if (!meant.sameAs(lane.told)) {
                    lane.putTell(meant);
                }
            }
        }
    }

    private void findMeant(int u, int v) {
        findKnown(u, v);
        meant.clear();
        for (int w = 0; w < wishes.size(); w++) {
            if (known.has(w) && !known.meets(wishes.get(w).outdoneBy)) {
                meant.add(w);
            }
        }
    }

    private void findKnown(int u, int v) {
        known.clear();
        for (int w = 0; w < wishes.size(); w++) {
            Wish wish = wishes.get(w);
            if (wish.alive && wish.owner.desk == u) {
                known.add(w);
            }
        }
        for (int d = 0; d < desks; d++) {
            Lane lane = laneFrom(d, u);
            if (lane != null && d != v) {
                known.addAll(lane.table);
            }
        }
    }

    private int firstBusyPlace() {
        for (int place = 0; place < lanes.length; place++) {
            if (lanes[place] != null && lanes[place].size > 0) {
                return place;
            }
        }
        return NONE;
    }

    private void deliverFirst(int u, int v) {
        Lane lane = laneFrom(u, v);
        int item = lane == null ? NONE : lane.takeFirst();
        if (item == TELL) {
            tellsDelivered++;
            tellNeighbours(v);
            return;
        }
        Notice come = findNotice(item);
        if (come == null) {
            return;
        }
        come.messages--;
        if (!inMask(come.seenAt, v)) {
            letHear(come, v);
            passOn(come, v, u);
        }
    }

    private void letHear(Notice come, int desk) {
        come.seenAt |= 1 << desk;
        for (int w = 0; w < wishes.size(); w++) {
            Wish wish = wishes.get(w);
            if (wish.alive && wish.owner.desk == desk && !inMask(come.heardBy, wish.reader)
                    && wish.isMetBy(come.fields)) {
                come.heardBy |= 1 << wish.reader;
                wish.owner.addHeard(come.number);
            }
        }
    }

    private void passOn(Notice come, int desk, int from) {
        for (int v = 0; v < desks; v++) {
            Lane there = laneFrom(desk, v);
            Lane back = laneFrom(v, desk);
            if (v != from && there != null && back != null && isInTable(come, back.table)) {
                there.putNotice(come.number);
                come.messages++;
                passedOn++;
                if (!isWantedAt(come, reach(v, desk))) {
                    needless++;
                }
            }
        }
    }

    private boolean isInTable(Notice come, Row table) {
        for (int w = 0; w < wishes.size(); w++) {
            if (table.has(w) && wishes.get(w).isMetBy(come.fields)) {
                return true;
            }
        }
        return false;
    }

    private boolean isWantedAt(Notice come, int deskMask) {
        for (int w = 0; w < wishes.size(); w++) {
            Wish wish = wishes.get(w);
            if (wish.alive && inMask(deskMask, wish.owner.desk) && wish.isMetBy(come.fields)) {
                return true;
            }
        }
        return false;
    }

    private int underWay() {
        int found = 0;
        for (int k = 0; k < notices.size(); k++) {
            if (notices.get(k).messages > 0) {
                found++;
            }
        }
        return found;
    }

    private int messagesInLanes() {
        int found = 0;
        for (int place = 0; place < lanes.length; place++) {
            if (lanes[place] != null) {
                found += lanes[place].size;
            }
        }
        return found;
    }

    private int tellsInLanes() {
        int found = 0;
        for (int place = 0; place < lanes.length; place++) {
            if (lanes[place] != null) {
                found += lanes[place].tells();
            }
        }
        return found;
    }

    /** A set of wish numbers: rows always stand by rising numbers, each once, so no order is kept. */
    private static final class Row {
        private final long[] words = new long[ROW_WORDS];

        boolean has(int wish) {
            return wish >= 0 && wish < MAX_WISHES && (words[wish / WORD_BITS] >>> wish % WORD_BITS & 1L) != 0L;
        }

        void add(int wish) {
            if (wish >= 0 && wish < MAX_WISHES) {
                words[wish / WORD_BITS] |= 1L << wish % WORD_BITS;
            }
        }

        void addAll(Row other) {
            for (int i = 0; i < ROW_WORDS; i++) {
                words[i] |= other.words[i];
            }
        }

        void clear() {
            for (int i = 0; i < ROW_WORDS; i++) {
                words[i] = 0L;
            }
        }

        void set(Row other) {
            for (int i = 0; i < ROW_WORDS; i++) {
                words[i] = other.words[i];
            }
        }

        boolean meets(Row other) {
            for (int i = 0; i < ROW_WORDS; i++) {
                if ((words[i] & other.words[i]) != 0L) {
                    return true;
                }
            }
            return false;
        }

        boolean sameAs(Row other) {
            for (int i = 0; i < ROW_WORDS; i++) {
                if (words[i] != other.words[i]) {
                    return false;
                }
            }
            return true;
        }

        int nth(int i) {
            int before = 0;
            for (int w = 0; w < MAX_WISHES; w++) {
                if (has(w)) {
                    if (before == i) {
                        return w;
                    }
                    before++;
                }
            }
            return NONE;
        }
    }

    /** The messages one way over a link, with what its near end told and its far end's table. */
    private static final class Lane {
        final Row told = new Row();
        final Row table = new Row();
        int size = 0;
        private final int[] items = new int[LANE_ROOM];
        private final Row[] rows = new Row[LANE_ROOM];
        private int first = 0;

        int itemAt(int i) {
            return i >= 0 && i < size ? items[slot(i)] : NONE;
        }

        void putNotice(int number) {
            if (size < LANE_ROOM) {
                items[slot(size)] = number;
                size++;
            }
        }

        void putTell(Row row) {
            if (itemAt(size - 1) != TELL) {
                if (size >= LANE_ROOM) {
                    return;
                }
                items[slot(size)] = TELL;
                size++;
            }
            rowAt(slot(size - 1)).set(row);
            told.set(row);
        }

        /** Takes the first message away; a tell's row is the table from then on. */
        int takeFirst() {
            if (size == 0) {
                return NONE;
            }
            int item = items[first];
            if (item == TELL) {
                table.set(rowAt(first));
            }
            first = slot(1);
            size--;
            return item;
        }

        int tells() {
            int found = 0;
            for (int i = 0; i < size; i++) {
                if (itemAt(i) == TELL) {
                    found++;
                }
            }
            return found;
        }

        void clear() {
            told.clear();
            table.clear();
            size = 0;
            first = 0;
        }

        private int slot(int i) {
            return (first + i) % LANE_ROOM;
        }

        /** Rows stay with their slots to be used again; most slots never hold a tell. */
        private Row rowAt(int slot) {
            if (rows[slot] == null) {
                rows[slot] = new Row();
            }
            return rows[slot];
        }
    }

    private static final class Reader {
        int desk;
        private final int[] hearings = new int[MAX_NOTICES];
        private int size = 0;

        Reader(int desk) {
            this.desk = desk;
        }

        void addHeard(int number) {
            if (size < MAX_NOTICES) {
                hearings[size] = number;
                size++;
            }
        }

        int nthHeard(int i) {
            return i >= 0 && i < size ? hearings[i] : NONE;
        }
    }

    private static final class Notice {
        final int number;
        final int desk;
        final int[] fields;
        int messages = 0;
        int seenAt = 0;
        int heardBy = 0;

        Notice(int number, int desk, int[] fields) {
            this.number = number;
            this.desk = desk;
            this.fields = fields;
        }
    }

    private static final class Wish {
        final int reader;
        final Reader owner;
        final FieldTest[] tests;
        /** The wishes beside which this one is not told: they cover it, and the least of the same stays. */
        final Row outdoneBy = new Row();
        boolean alive = true;

        Wish(int reader, Reader owner, FieldTest[] tests) {
            this.reader = reader;
            this.owner = owner;
            this.tests = tests;
        }

        boolean isMetBy(int[] fields) {
            for (int f = 0; f < FIELDS; f++) {
                if (!tests[f].passes(fields[f])) {
                    return false;
                }
            }
            return true;
        }

        /** A wish that no notice can fit is covered by every wish, whatever its other fields ask. */
        boolean takesIn(Wish other) {
            if (other.isNeverMet()) {
                return true;
            }
            for (int f = 0; f < FIELDS; f++) {
                if (!tests[f].isAsWideAs(other.tests[f])) {
                    return false;
                }
            }
            return true;
        }

        private boolean isNeverMet() {
            for (int f = 0; f < FIELDS; f++) {
                if (tests[f].passesNone()) {
                    return true;
                }
            }
            return false;
        }
    }

    private static final class FieldTest {
        int kind = ANY;
        private final int[] numbers = new int[MAX_NUMBERS];
        private int size = 0;

        void setKind(int newKind, int a, int b) {
            kind = newKind;
            size = newKind == ANY ? 0 : 2;
            numbers[0] = a;
            numbers[1] = b;
        }

        boolean addNumber(int v) {
            if (kind != AMONG) {
                kind = AMONG;
                size = 0;
            }
            if (size >= MAX_NUMBERS || hasNumber(v)) {
                return false;
            }
            int at = size;
            while (at > 0 && numbers[at - 1] > v) {
                numbers[at] = numbers[at - 1];
                at--;
            }
            numbers[at] = v;
            size++;
            return true;
        }

        int numberAt(int k) {
            return k >= 0 && k < size ? numbers[k] : 0;
        }

        boolean passes(int v) {
            switch (kind) {
                case BETWEEN: return numbers[0] <= v && v <= numbers[1];
                case NOT: return v < numbers[0] || numbers[1] < v;
                case AMONG: return hasNumber(v);
                default: return true;
            }
        }

        boolean passesNone() {
            return kind == NOT && numbers[0] == Integer.MIN_VALUE && numbers[1] == Integer.MAX_VALUE;
        }

        boolean isAsWideAs(FieldTest other) {
            for (int i = 0; i < other.spans(); i++) {
                if (!passesAll(other.spanStart(i), other.spanEnd(i))) {
                    return false;
                }
            }
            return true;
        }

        private boolean hasNumber(int v) {
            for (int i = 0; i < size; i++) {
                if (numbers[i] == v) {
                    return true;
                }
            }
            return false;
        }

        /** Goes over the spans by rising numbers, as several of them may only together pass all. */
        private boolean passesAll(long start, long end) {
            long next = start;
            for (int i = 0; i < spans(); i++) {
                if (spanStart(i) <= next && next <= spanEnd(i)) {
                    next = spanEnd(i) + 1L;
                }
            }
            return next > end;
        }

        /** The numbers that pass are those of some spans, by rising numbers; an end below its start is none. */
        private int spans() {
            switch (kind) {
                case NOT: return 2;
                case AMONG: return size;
                default: return 1;
            }
        }

        private long spanStart(int i) {
            switch (kind) {
                case BETWEEN: return numbers[0];
                case NOT: return i == 0 ? Integer.MIN_VALUE : numbers[1] + 1L;
                case AMONG: return numberAt(i);
                default: return Integer.MIN_VALUE;
            }
        }

        private long spanEnd(int i) {
            switch (kind) {
                case BETWEEN: return numbers[1];
                case NOT: return i == 0 ? numbers[0] - 1L : Integer.MAX_VALUE;
                case AMONG: return numberAt(i);
                default: return Integer.MAX_VALUE;
            }
        }
    }
}
