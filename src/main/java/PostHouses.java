import java.util.Arrays;

/**
 * A digger's book of dark spots in sand: holes of two diggers' frames, the houses that a text of
 * kinds finds among them, their phases and years, and the fences among what is left, all as known
 * in any week.
 */
public final class PostHouses {
    public static final int NONE = -1;

    private static final int NOTHING = -1000;
    private static final int BAD_NUMBER = -1;
    private static final int NOT_THERE = -2;
    private static final int TWICE = -4;
    private static final int NO_ROOM = -5;
    private static final int BAD_TEXT = -6;

    private static final int LAST_WEEK = 400;
    private static final int LAST_PLACE = 499;
    private static final int MAX_HOLES = 40;
    private static final int MAX_KINDS = 5;
    private static final int MAX_HOUSES = 24;
    private static final int LAST_START = 2000;
    private static final int LAST_YEAR = 2500;

    private static final int UNSEEN = -2;
    private static final int LOST = -3;
    private static final int MISSED = -4;

    private final Book book;
    private final KindText text;
    private final Survey survey;
    private int refusal;

    public PostHouses() {
        book = new Book();
        text = new KindText();
        survey = new Survey(book, text);
        refusal = 0;
    }

    public int hole(int digger, int x, int y, int depth, int known) {
        if (!isIn(digger, 0, 1) || !isIn(x, -600, 1099) || !isIn(y, -600, 1099)
                || !isIn(depth, 0, 200) || !isWeek(known)) {
            return refuse(BAD_NUMBER);
        }
        if (book.holes.isFull()) {
            return refuse(NO_ROOM);
        }
        int number = book.addHole(digger, x, y, depth, known);
        survey.forget(Survey.NEW);
        return accept(number);
    }

    public int retell(int hole, int depth, int known) {
        if (!isIn(depth, 0, 200) || !isWeek(known)) {
            return refuse(BAD_NUMBER);
        }
        if (!book.hasHole(hole)) {
            return refuse(NOT_THERE);
        }
        if (book.retold.isFull()) {
            return refuse(NO_ROOM);
        }
        book.retold.add(hole, depth, 0, 0, known);
        book.mark(known);
        survey.forget(Survey.NEW);
        return accept(book.retold.size);
    }

    public int strike(int hole, int known) {
        if (!isWeek(known)) {
            return refuse(BAD_NUMBER);
        }
        if (!book.hasHole(hole)) {
            return refuse(NOT_THERE);
        }
        book.strikeHole(hole, known);
        survey.forget(Survey.NEW);
        return accept(0);
    }

    public int trench(int x, int y, int u, int v, int known) {
        if (!isPlot(x, y, u, v) || !isWeek(known)) {
            return refuse(BAD_NUMBER);
        }
        if (book.trenches.isFull()) {
            return refuse(NO_ROOM);
        }
        book.trenches.add(x, y, u, v, known);
        book.mark(known);
        survey.forget(Survey.SIGHTED);
        return accept(book.trenches.size);
    }

    public int plough(int x, int y, int u, int v, int depth) {
        if (!isPlot(x, y, u, v) || !isIn(depth, 0, 100)) {
            return refuse(BAD_NUMBER);
        }
        if (book.ploughed.isFull()) {
            return refuse(NO_ROOM);
        }
        book.ploughed.add(x, y, u, v, depth);
        survey.forget(Survey.NEW);
        return accept(book.ploughed.size);
    }

    public int error(int n) {
        if (!isIn(n, 0, 5)) {
            return refuse(BAD_NUMBER);
        }
        int before = book.error;
        book.error = n;
        survey.forget(Survey.NEW);
        return accept(before);
    }

    public int frame(int known, int what) {
        if (!survey.reach(known, Survey.SIGHTED)) {
            return NOTHING;
        }
        Sight sight = survey.sight;
        switch (what) {
            case 0:
                return sight.turn;
            case 1:
                return sight.shiftX;
            case 2:
                return sight.shiftY;
            case 3:
                return sight.hits;
            default:
                return NOTHING;
        }
    }

    public int spot(int hole, int known, int what) {
        if (!book.hasHole(hole) || !survey.reach(known, Survey.SIGHTED)) {
            return NOTHING;
        }
        Sight sight = survey.sight;
        int its = sight.spotOf[hole];
        switch (what) {
            case 0:
                return sight.seen[hole] ? sight.x[hole] : NOTHING;
            case 1:
                return sight.seen[hole] ? sight.y[hole] : NOTHING;
            case 2:
                return its;
            case 3:
                return isIn(its, 0, MAX_HOLES - 1) ? sight.full[its] : NONE;
            case 4:
                return its == hole ? 1 : 0;
            default:
                return NOTHING;
        }
    }

    public int feed(int a, int b, int c, int d, int e) {
        if (text.length + 20 > KindText.TAPE_ROOM) {
            return NONE;
        }
        text.push(a);
        text.push(b);
        text.push(c);
        text.push(d);
        text.push(e);
        return text.length;
    }

    public int end(int n) {
        if (n < 0 || n > text.length) {
            return NONE;
        }
        text.length = n;
        return n;
    }

    public int kinds() {
        if (!text.read()) {
            return refuse(BAD_TEXT);
        }
        survey.forget(Survey.SIGHTED);
        return accept(text.kindCount);
    }

    public int fault() {
        return text.faultPlace;
    }

    public int houses(int known) {
        return survey.reach(known, Survey.FOUND) ? survey.list.size : NONE;
    }

    public int house(int known, int house, int what) {
        if (!survey.reach(known, Survey.CHOSEN)) {
            return NOTHING;
        }
        House it = survey.list.get(house);
        if (it == null) {
            return NOTHING;
        }
        switch (what) {
            case 0:
                return it.kind;
            case 1:
                return it.p;
            case 2:
                return it.q;
            case 3:
                return it.r;
            case 4:
                return it.posts;
            case 5:
                return it.filled;
            case 6:
                return it.missed;
            case 7:
                return it.lost;
            case 8:
                return it.unseen;
            case 9:
                return it.value;
            case 10:
                return it.chosen ? 1 : 0;
            default:
                return NOTHING;
        }
    }

    public int place(int known, int house, int i, int j) {
        if (!survey.reach(known, Survey.FOUND)) {
            return NOTHING;
        }
        House it = survey.list.get(house);
        if (it == null || !isIn(i, 0, it.posts - 1) || !isIn(j, 0, it.rows - 1)) {
            return NOTHING;
        }
        return survey.placeOf(it, i, j);
    }

    public int explained(int known, int what) {
        if (!isIn(what, 0, 1) || !survey.reach(known, Survey.CHOSEN)) {
            return NONE;
        }
        return what == 0 ? survey.list.chosenCount : survey.list.chosenValue;
    }

    public int strength(int kind, int known) {
        if (!isIn(kind, 0, text.kindCount - 1) || !survey.reach(known, Survey.FOUND)) {
            return NONE;
        }
        return survey.strengthOf(kind);
    }

    public int cut(int later, int earlier, int known) {
        if (!isWeek(known)) {
            return refuse(BAD_NUMBER);
        }
        if (!book.hasHole(later) || !book.hasHole(earlier)) {
            return refuse(NOT_THERE);
        }
        if (later == earlier) {
            return refuse(TWICE);
        }
        if (book.cuts.isFull()) {
            return refuse(NO_ROOM);
        }
        book.cuts.add(later, earlier, 0, 0, known);
        book.mark(known);
        survey.forget(Survey.CHOSEN);
        return accept(book.cuts.size);
    }

    public int pair(int known, int one, int other, int what) {
        if (!isIn(what, 0, 1) || !survey.reach(known, Survey.PHASED)) {
            return NONE;
        }
        int first = survey.order.memberFor(one);
        int second = survey.order.memberFor(other);
        if (first == NONE || second == NONE || first == second) {
            return NONE;
        }
        int related = what == 0 ? survey.order.meets[first] : survey.order.laterThan[first];
        return (related >> second) & 1;
    }

    public int phases(int known, int what) {
        if (!isIn(what, 0, 1) || !survey.reach(known, Survey.PHASED)) {
            return NONE;
        }
        Order order = survey.order;
        if (!order.hasWay) {
            return NONE;
        }
        return what == 0 ? order.phaseCount : order.rivals;
    }

    public int phase(int known, int house) {
        if (!survey.reach(known, Survey.PHASED)) {
            return NONE;
        }
        int member = survey.order.memberFor(house);
        if (member == NONE || !survey.order.hasWay) {
            return NONE;
        }
        return survey.order.phaseOf[member];
    }

    public int date(int hole, int from, int to, int known) {
        if (!isIn(from, 0, LAST_START) || !isIn(to, from, LAST_START) || !isWeek(known)) {
            return refuse(BAD_NUMBER);
        }
        if (!book.hasHole(hole)) {
            return refuse(NOT_THERE);
        }
        if (book.dates.isFull()) {
            return refuse(NO_ROOM);
        }
        book.dates.add(hole, from, to, 0, known);
        book.mark(known);
        survey.forget(Survey.PHASED);
        return accept(book.dates.size);
    }

    public int start(int known, int house, int what) {
        if (!isIn(what, 0, 1) || !survey.reach(known, Survey.DATED)) {
            return NONE;
        }
        int member = survey.order.memberFor(house);
        if (member == NONE || !survey.order.hasStarts) {
            return NONE;
        }
        return what == 0 ? survey.order.earliest[member] : survey.order.latest[member];
    }

    public int stands(int known, int year, int what) {
        if (!isIn(year, 0, LAST_YEAR) || !isIn(what, 0, 1)
                || !survey.reach(known, Survey.DATED)) {
            return NONE;
        }
        Order order = survey.order;
        if (!order.hasStarts) {
            return NONE;
        }
        return what == 0 ? order.sureIn(year) : order.mostIn(year);
    }

    public int fences(int known) {
        if (!survey.reach(known, Survey.CHOSEN)) {
            return NONE;
        }
        survey.setFences();
        return survey.fenceCount;
    }

    public int led(int hole, int known, int what) {
        if (!book.hasHole(hole) || !isIn(what, 0, 1) || !survey.reach(known, Survey.CHOSEN)) {
            return NONE;
        }
        survey.setFences();
        int its = survey.sight.spotOf[hole];
        if (!isIn(its, 0, MAX_HOLES - 1)) {
            int led = survey.sight.seen[hole] ? 1 : 0;
            return what == 0 ? led : NONE;
        }
        int house = survey.list.houseOf[its];
        if (house != NONE) {
            return what == 0 ? 2 : house;
        }
        int fence = survey.fenceOf[its];
        if (what == 1) {
            return fence;
        }
        return fence != NONE ? 3 : 4;
    }

    public int count(int what) {
        switch (what) {
            case 0:
                return book.holes.size;
            case 1:
                return book.retold.size;
            case 2:
                return book.trenches.size;
            case 3:
                return book.ploughed.size;
            case 4:
                return text.kindCount;
            case 5:
                return book.cuts.size;
            case 6:
                return book.dates.size;
            case 7:
                return text.length;
            default:
                return NONE;
        }
    }

    public int status() {
        return refusal;
    }

    private int refuse(int why) {
        refusal = why;
        return why;
    }

    private int accept(int answer) {
        refusal = 0;
        return answer;
    }

    private static boolean isIn(int n, int low, int high) {
        return n >= low && n <= high;
    }

    private static boolean isWeek(int n) {
        return isIn(n, 0, LAST_WEEK);
    }

    private static boolean isInField(int x, int y) {
        return isIn(x, 0, LAST_PLACE) && isIn(y, 0, LAST_PLACE);
    }

    private static boolean isPlot(int x, int y, int u, int v) {
        return isInField(x, y) && isInField(u, v) && x <= u && y <= v;
    }

    /** Rows of five numbers in the order in which they were told, up to a limit. */
    private static final class Ledger {
        static final int WIDTH = 5;
        /** Row after row: plots are looked through so often that they are read here as they lie. */
        final int[] cells;
        private final int room;
        int size;

        Ledger(int room) {
            this.room = room;
            cells = new int[room * WIDTH];
            size = 0;
        }

        boolean isFull() {
            return size >= room;
        }

        void add(int a, int b, int c, int d, int e) {
            if (isFull()) {
                return;
            }
            int from = size * WIDTH;
            cells[from] = a;
            cells[from + 1] = b;
            cells[from + 2] = c;
            cells[from + 3] = d;
            cells[from + 4] = e;
            size++;
        }

        int get(int row, int column) {
            boolean isThere = row >= 0 && row < size && column >= 0 && column < WIDTH;
            return isThere ? cells[row * WIDTH + column] : 0;
        }
    }

    /** All that the diggers told, whenever it became known. */
    private static final class Book {
        static final int DIGGER = 0;
        static final int X = 1;
        static final int Y = 2;
        static final int DEPTH = 3;
        /** In every ledger but that of the ploughed plots the last number is the WEEK of knowing. */
        static final int KNOWN = 4;
        private static final int NEVER = LAST_WEEK + 1;

        final Ledger holes = new Ledger(MAX_HOLES);
        final Ledger retold = new Ledger(60);
        final Ledger trenches = new Ledger(20);
        final Ledger ploughed = new Ledger(20);
        final Ledger cuts = new Ledger(60);
        final Ledger dates = new Ledger(60);
        private final int[] struckFrom = new int[MAX_HOLES];
        private final boolean[] news = new boolean[LAST_WEEK + 1];
        int error = 2;

        boolean hasHole(int hole) {
            return isIn(hole, 0, holes.size - 1);
        }

        int addHole(int digger, int x, int y, int depth, int known) {
            int number = holes.size;
            if (number < MAX_HOLES) {
                struckFrom[number] = NEVER;
            }
            holes.add(digger, x, y, depth, known);
            mark(known);
            return number;
        }

        void strikeHole(int hole, int known) {
            if (hasHole(hole)) {
                struckFrom[hole] = Math.min(struckFrom[hole], known);
                mark(known);
            }
        }

        void mark(int known) {
            if (isWeek(known)) {
                news[known] = true;
            }
        }

        /** The latest WEEK not behind this one that brought news: both know the same. */
        int weekOfNews(int known) {
            for (int week = Math.min(known, LAST_WEEK); week > 0; week--) {
                if (news[week]) {
                    return week;
                }
            }
            return 0;
        }

        boolean isSeen(int hole, int week) {
            return hasHole(hole) && holes.get(hole, KNOWN) <= week && struckFrom[hole] > week;
        }

        boolean isDug(int x, int y, int week) {
            int[] plots = trenches.cells;
            for (int at = 0; at < trenches.size * Ledger.WIDTH; at += Ledger.WIDTH) {
                if (x >= plots[at] && y >= plots[at + 1] && x <= plots[at + 2]
                        && y <= plots[at + 3] && plots[at + KNOWN] <= week) {
                    return true;
                }
            }
            return false;
        }

        int ploughedAt(int x, int y) {
            int[] plots = ploughed.cells;
            int deepest = 0;
            for (int at = 0; at < ploughed.size * Ledger.WIDTH; at += Ledger.WIDTH) {
                if (x >= plots[at] && y >= plots[at + 1] && x <= plots[at + 2]
                        && y <= plots[at + 3] && plots[at + 4] > deepest) {
                    deepest = plots[at + 4];
                }
            }
            return deepest;
        }
    }

    /** The TAPE, and the KINDS that the latest good text told. */
    private static final class KindText {
        static final int TAPE_ROOM = 400;
        static final int ROWS = 0;
        static final int POSTS = 1;
        static final int STEP = 2;
        static final int APART = 3;
        static final int SLACK = 4;
        static final int DEEP = 5;
        static final int PAIRS = 6;
        static final int MISS = 7;
        static final int LIFE = 8;
        static final int WORTH = 9;
        /** A KIND's numbers: N of each sort of clause, then M of each. */
        static final int SORTS = 10;

        private static final int[] LEAST = {2, 2, 5, 5, 0, 0, 0, 0, 1, 1};
        private static final int[] MOST = {4, 8, 100, 200, 9, 300, 300, 4, 500, 100};
        private static final int[] USUAL = {2, 2, 10, 20, 3, 0, 300, 0, 30, 10};
        /** NONE for the clauses that have no "to". */
        private static final int[] USUAL_TO = {-1, 8, 40, 80, -1, 300, -1, -1, -1, -1};

        private static final int BLANK = 32;
        private static final int LETTER = 1;
        private static final int DIGIT = 2;
        private static final int OTHER = 3;
        private static final int TOO_GREAT = 100000;

        private final int[] tape = new int[TAPE_ROOM];
        int length = 0;
        final int[][] told = new int[MAX_KINDS][2 * SORTS];
        private final int[][] draft = new int[MAX_KINDS][2 * SORTS];
        int kindCount = 0;
        int faultPlace = NONE;
        private int tokenAt = 0;
        private int tokenEnd = 0;

        void push(int number) {
            for (int shift = 24; shift >= 0; shift -= 8) {
                if (length < TAPE_ROOM) {
                    tape[length] = (number >> shift) & 255;
                    length++;
                }
            }
        }

        /** Makes the TAPE the KINDS; false, with the fault's place, if its text can't be. */
        boolean read() {
            tokenEnd = 0;
            next();
            int found = tokenAt >= length ? 0 : readKinds();
            faultPlace = found == NONE ? tokenAt : NONE;
            length = 0;
            if (found == NONE) {
                return false;
            }
            for (int i = 0; i < found && i < MAX_KINDS; i++) {
                System.arraycopy(draft[i], 0, told[i], 0, 2 * SORTS);
            }
            kindCount = found;
            return true;
        }

        private int readKinds() {
            for (int i = 0; i < MAX_KINDS; i++) {
                if (!readKind(draft[i])) {
                    return NONE;
                }
                if (tokenAt >= length) {
                    return i + 1;
                }
                if (!take(";")) {
                    return NONE;
                }
            }
            return NONE;
        }

        private boolean readKind(int[] kind) {
            System.arraycopy(USUAL, 0, kind, 0, SORTS);
            System.arraycopy(USUAL_TO, 0, kind, SORTS, SORTS);
            if (!take("kind") || !take("{")) {
                return false;
            }
            if (take("}")) {
                return true;
            }
            for (int i = 0; i < TAPE_ROOM; i++) {
                if (!readClause(kind)) {
                    return false;
                }
                if (take("}")) {
                    return true;
                }
                if (!take(",")) {
                    return false;
                }
            }
            return false;
        }

        private boolean readClause(int[] kind) {
            int sort = 0;
            while (sort < SORTS && !take(wordOf(sort))) {
                sort++;
            }
            int low = numberHere();
            if (sort >= SORTS || low < LEAST[sort] || low > MOST[sort]) {
                return false;
            }
            next();
            kind[sort] = low;
            if (USUAL_TO[sort] == NONE) {
                return true;
            }
            if (!take("to")) {
                return false;
            }
            int high = numberHere();
            if (high < low || high > MOST[sort]) {
                return false;
            }
            next();
            kind[SORTS + sort] = high;
            return true;
        }

        private static String wordOf(int sort) {
            switch (sort) {
                case ROWS:
                    return "rows";
                case POSTS:
                    return "posts";
                case STEP:
                    return "step";
                case APART:
                    return "apart";
                case SLACK:
                    return "slack";
                case DEEP:
                    return "deep";
                case PAIRS:
                    return "pairs";
                case MISS:
                    return "miss";
                case LIFE:
                    return "life";
                default:
                    return "worth";
            }
        }

        private void next() {
            int from = tokenEnd;
            while (from < length && tape[from] == BLANK) {
                from++;
            }
            tokenAt = from;
            if (from >= length) {
                return;
            }
            int sort = sortOf(tape[from]);
            int to = from + 1;
            while (sort != OTHER && to < length && sortOf(tape[to]) == sort) {
                to++;
            }
            tokenEnd = to;
        }

        private static int sortOf(int letter) {
            if (letter >= 'a' && letter <= 'z') {
                return LETTER;
            }
            return letter >= '0' && letter <= '9' ? DIGIT : OTHER;
        }

        /** Goes on behind the TOKEN, if it is this word. */
        private boolean take(String word) {
            int size = word.length();
            if (tokenAt >= length || tokenEnd - tokenAt != size) {
                return false;
            }
            for (int i = 0; i < size; i++) {
                if (tape[tokenAt + i] != word.charAt(i)) {
                    return false;
                }
            }
            next();
            return true;
        }

        /** The number that the TOKEN is, NONE if it is none; one too long for an int stays too great. */
        private int numberHere() {
            if (tokenAt >= length || sortOf(tape[tokenAt]) != DIGIT) {
                return NONE;
            }
            int number = 0;
            for (int i = tokenAt; i < tokenEnd; i++) {
                number = Math.min(TOO_GREAT, number * 10 + tape[i] - '0');
            }
            return number;
        }
    }

    /** The HOLES as known in a WEEK: the FRAME, and which of them are SPOTS. */
    private static final class Sight {
        private static final int REACH = 20;
        private static final int SIDE = 2 * REACH + 1;

        private final Book book;
        final boolean[] seen = new boolean[MAX_HOLES];
        final int[] x = new int[MAX_HOLES];
        final int[] y = new int[MAX_HOLES];
        private final int[] depth = new int[MAX_HOLES];
        final int[] spotOf = new int[MAX_HOLES];
        final int[] full = new int[MAX_HOLES];
        final int[] spots = new int[MAX_HOLES];
        int spotCount = 0;
        int turn = 0;
        int shiftX = 0;
        int shiftY = 0;
        int hits = 0;
        private final int[] hitsBy = new int[SIDE * SIDE];
        private final int[] lastHit = new int[SIDE * SIDE];

        Sight(Book book) {
            this.book = book;
        }

        void look(int week) {
            for (int hole = 0; hole < book.holes.size; hole++) {
                seen[hole] = book.isSeen(hole, week);
                depth[hole] = book.holes.get(hole, Book.DEPTH);
            }
            for (int i = 0; i < book.retold.size; i++) {
                int hole = book.retold.get(i, 0);
                if (book.hasHole(hole) && book.retold.get(i, Book.KNOWN) <= week) {
                    depth[hole] = book.retold.get(i, 1);
                }
            }
            joinFrames();
            for (int hole = 0; hole < book.holes.size; hole++) {
                turnHole(hole, turn);
                if (isOfSecond(hole)) {
                    x[hole] += shiftX;
                    y[hole] += shiftY;
                }
            }
            nameSpots();
            deepenSpots();
        }

        private boolean isOfSecond(int hole) {
            return book.holes.get(hole, Book.DIGGER) == 1;
        }

        private void joinFrames() {
            turn = 0;
            shiftX = 0;
            shiftY = 0;
            hits = 0;
            for (int t = 0; t < 4; t++) {
                countHits(t);
                takeBestShift(t);
            }
        }

        private void turnHole(int hole, int turns) {
            int px = book.holes.get(hole, Book.X);
            int py = book.holes.get(hole, Book.Y);
            for (int t = 0; t < turns && isOfSecond(hole); t++) {
                int turned = LAST_PLACE - py;
                py = px;
                px = turned;
            }
            x[hole] = px;
            y[hole] = py;
        }

        private void countHits(int turns) {
            Arrays.fill(hitsBy, 0);
            Arrays.fill(lastHit, NONE);
            for (int hole = 0; hole < book.holes.size; hole++) {
                if (!seen[hole] || !isOfSecond(hole)) {
                    continue;
                }
                turnHole(hole, turns);
                for (int other = 0; other < book.holes.size; other++) {
                    if (seen[other] && !isOfSecond(other)) {
                        countShifts(hole, book.holes.get(other, Book.X) - x[hole],
                                book.holes.get(other, Book.Y) - y[hole]);
                    }
                }
            }
        }

        /** A HOLE counts once for each shift, however many of the other digger's it comes near to. */
        private void countShifts(int hole, int wayX, int wayY) {
            int lastX = Math.min(REACH, wayX + book.error);
            int lastY = Math.min(REACH, wayY + book.error);
            for (int dx = Math.max(-REACH, wayX - book.error); dx <= lastX; dx++) {
                for (int dy = Math.max(-REACH, wayY - book.error); dy <= lastY; dy++) {
                    int cell = (dx + REACH) * SIDE + dy + REACH;
                    if (lastHit[cell] != hole) {
                        lastHit[cell] = hole;
                        hitsBy[cell]++;
                    }
                }
            }
        }

        /** Turns and shifts come in rising order, so that of alike ones the first one stays. */
        private void takeBestShift(int turns) {
            for (int dx = -REACH; dx <= REACH; dx++) {
                for (int dy = -REACH; dy <= REACH; dy++) {
                    int by = hitsBy[(dx + REACH) * SIDE + dy + REACH];
                    int length = Math.abs(dx) + Math.abs(dy);
                    int best = Math.abs(shiftX) + Math.abs(shiftY);
                    if (by > hits || by == hits && length < best) {
                        hits = by;
                        turn = turns;
                        shiftX = dx;
                        shiftY = dy;
                    }
                }
            }
        }

        private void nameSpots() {
            spotCount = 0;
            for (int hole = 0; hole < book.holes.size; hole++) {
                spotOf[hole] = seen[hole] ? spotFor(hole) : NONE;
                if (spotOf[hole] == hole) {
                    spots[spotCount] = hole;
                    spotCount++;
                }
            }
        }

        private int spotFor(int hole) {
            boolean inField = isInField(x[hole], y[hole]);
            if (!isOfSecond(hole)) {
                return inField ? hole : NONE;
            }
            boolean hit = false;
            for (int other = 0; other < book.holes.size; other++) {
                if (!seen[other] || isOfSecond(other) || !isNear(hole, other)) {
                    continue;
                }
                if (isInField(x[other], y[other])) {
                    return other;
                }
                hit = true;
            }
            return inField && !hit ? hole : NONE;
        }

        private boolean isNear(int hole, int other) {
            return Math.abs(x[hole] - x[other]) <= book.error
                    && Math.abs(y[hole] - y[other]) <= book.error;
        }

        private void deepenSpots() {
            Arrays.fill(full, 0);
            for (int hole = 0; hole < book.holes.size; hole++) {
                int spot = spotOf[hole];
                if (isIn(spot, 0, MAX_HOLES - 1)) {
                    full[spot] = Math.max(full[spot], depth[hole]);
                }
            }
            for (int i = 0; i < spotCount; i++) {
                int spot = spots[i];
                full[spot] += book.ploughedAt(x[spot], y[spot]);
            }
        }
    }

    /** The SPOTS in order with their places, to be asked for the one nearest to a place. */
    private static final class SpotMap {
        final int[] hole = new int[MAX_HOLES];
        final int[] x = new int[MAX_HOLES];
        final int[] y = new int[MAX_HOLES];
        final int[] full = new int[MAX_HOLES];
        int size = 0;
        private final int[] ownY = new int[MAX_HOLES];
        private final int[] byX = new int[MAX_HOLES];
        /** For each x how many SPOTS lie ahead of it: where to begin in byX. */
        private final int[] aheadOf = new int[LAST_PLACE + 1];

        void load(Sight sight) {
            size = Math.min(sight.spotCount, MAX_HOLES);
            for (int i = 0; i < size; i++) {
                int spot = sight.spots[i];
                hole[i] = spot;
                x[i] = sight.x[spot];
                ownY[i] = sight.y[spot];
                full[i] = sight.full[spot];
            }
            rotate(0);
            sortByX();
        }

        /** Gives each SPOT the y of the one so many places behind it. */
        void rotate(int by) {
            for (int i = 0; i < size; i++) {
                y[i] = ownY[(i + by) % size];
            }
        }

        private void sortByX() {
            for (int i = 0; i < size; i++) {
                int at = i;
                while (at > 0 && x[byX[at - 1]] > x[i]) {
                    byX[at] = byX[at - 1];
                    at--;
                }
                byX[at] = i;
            }
            int ahead = 0;
            for (int place = 0; place <= LAST_PLACE; place++) {
                while (ahead < size && x[byX[ahead]] < place) {
                    ahead++;
                }
                aheadOf[place] = ahead;
            }
        }

        /** The nearest SPOT that is not farther than slack, of alike ones the lower; NONE. */
        int nearest(int px, int py, int slack) {
            int from = px > slack ? px - slack : 0;
            if (from > LAST_PLACE) {
                return NONE;
            }
            int nearest = NONE;
            int least = slack * slack;
            for (int k = aheadOf[from]; k < size; k++) {
                int spot = byX[k];
                int wayX = x[spot] - px;
                if (wayX > slack) {
                    break;
                }
                int wayY = y[spot] - py;
                int way = wayX * wayX + wayY * wayY;
                if (way < least || way == least && (nearest == NONE || spot < nearest)) {
                    nearest = spot;
                    least = way;
                }
            }
            return nearest;
        }
    }

    /** A FRAMEWORK, and the HOUSE that it is with its greatest number of posts. */
    private static final class House {
        int kind;
        int p;
        int q;
        int r;
        int x;
        int y;
        int stepX;
        int stepY;
        int apartX;
        int apartY;
        int rows;
        int life;
        int posts;
        int filled;
        int missed;
        int lost;
        int unseen;
        int value;
        /** A bit for each HOLE that is a SPOT of it. */
        long spots;
        boolean chosen;

        void copy(House other) {
            kind = other.kind;
            p = other.p;
            q = other.q;
            r = other.r;
            x = other.x;
            y = other.y;
            stepX = other.stepX;
            stepY = other.stepY;
            apartX = other.apartX;
            apartY = other.apartY;
            rows = other.rows;
            life = other.life;
            posts = other.posts;
            filled = other.filled;
            missed = other.missed;
            lost = other.lost;
            unseen = other.unseen;
            value = other.value;
            spots = other.spots;
            chosen = false;
        }

        /** Ways along the sides, too, as an outline may be flat. */
        boolean meets(House other) {
            return !isParted(other, stepX, stepY) && !isParted(other, -stepY, stepX)
                    && !isParted(other, apartX, apartY) && !isParted(other, -apartY, apartX)
                    && !other.isParted(this, other.stepX, other.stepY)
                    && !other.isParted(this, -other.stepY, other.stepX)
                    && !other.isParted(this, other.apartX, other.apartY)
                    && !other.isParted(this, -other.apartY, other.apartX);
        }

        /** Whether there is a gap between the two, seen along a way. */
        private boolean isParted(House other, int wayX, int wayY) {
            return highest(wayX, wayY) < other.lowest(wayX, wayY)
                    || other.highest(wayX, wayY) < lowest(wayX, wayY);
        }

        private int lowest(int wayX, int wayY) {
            int along = (posts - 1) * (stepX * wayX + stepY * wayY);
            int wide = (rows - 1) * (apartX * wayX + apartY * wayY);
            return x * wayX + y * wayY + Math.min(0, along) + Math.min(0, wide);
        }

        private int highest(int wayX, int wayY) {
            return -lowest(-wayX, -wayY);
        }
    }

    /** Looks for the HOUSES of a KIND among the SPOTS of a map. */
    private static final class Finder {
        private final Book book;
        private final SpotMap map;
        private int week = 0;
        private int[] kind = null;
        private final int[] corners = new int[MAX_HOLES];
        private int cornerCount = 0;
        /** The corners that are as far from p as r may be. */
        private final int[] thirds = new int[MAX_HOLES];
        private int thirdCount = 0;
        private final House trial = new House();
        private int filled = 0;
        private int missed = 0;
        private int lost = 0;
        private int unseen = 0;
        private long spots = 0;
        private boolean found = false;
        private int greatest = 0;

        Finder(Book book, SpotMap map) {
            this.book = book;
            this.map = map;
        }

        void setKind(int[] numbers, int known) {
            kind = numbers;
            week = known;
        }

        /** The greatest VALUE of a HOUSE of the KIND, 0 without; a list is offered all of them. */
        int seek(int number, HouseList list) {
            found = false;
            greatest = 0;
            if (kind == null) {
                return 0;
            }
            trial.kind = number;
            trial.rows = kind[KindText.ROWS];
            trial.life = kind[KindText.LIFE];
            nameCorners();
            for (int a = 0; a < cornerCount; a++) {
                int p = corners[a];
                nameThirds(p);
                for (int b = 0; b < cornerCount; b++) {
                    int q = corners[b];
                    boolean isStep = p != q && setStep(p, q);
                    for (int c = 0; isStep && c < thirdCount; c++) {
                        if (thirds[c] != q && setApart(p, thirds[c]) && grow()) {
                            note(list);
                        }
                    }
                }
            }
            return greatest;
        }

        private void note(HouseList list) {
            greatest = found ? Math.max(greatest, trial.value) : trial.value;
            found = true;
            if (list != null) {
                list.offer(trial);
            }
        }

        /** p, q and r each fill their own PLACE, so that others needn't be tried as such. */
        private void nameCorners() {
            cornerCount = 0;
            for (int i = 0; i < map.size; i++) {
                if (isFit(i) && map.nearest(map.x[i], map.y[i], kind[KindText.SLACK]) == i) {
                    corners[cornerCount] = i;
                    cornerCount++;
                }
            }
        }

        private boolean isFit(int spot) {
            return map.full[spot] >= kind[KindText.DEEP]
                    && map.full[spot] <= kind[KindText.SORTS + KindText.DEEP];
        }

        private boolean setStep(int p, int q) {
            trial.p = map.hole[p];
            trial.q = map.hole[q];
            trial.x = map.x[p];
            trial.y = map.y[p];
            trial.stepX = map.x[q] - map.x[p];
            trial.stepY = map.y[q] - map.y[p];
            return isLong(trial.stepX, trial.stepY, KindText.STEP);
        }

        private void nameThirds(int p) {
            thirdCount = 0;
            for (int c = 0; c < cornerCount; c++) {
                int r = corners[c];
                if (r != p && isLong(map.x[r] - map.x[p], map.y[r] - map.y[p], KindText.APART)) {
                    thirds[thirdCount] = r;
                    thirdCount++;
                }
            }
        }

        private boolean setApart(int p, int r) {
            trial.r = map.hole[r];
            trial.apartX = map.x[r] - map.x[p];
            trial.apartY = map.y[r] - map.y[p];
            int along = trial.stepX * trial.apartX + trial.stepY * trial.apartY;
            int step = trial.stepX * trial.stepX + trial.stepY * trial.stepY;
            int slack = kind[KindText.SLACK];
            return along * along <= slack * slack * step;
        }

        private boolean isLong(int wayX, int wayY, int sort) {
            int low = kind[sort];
            int high = kind[KindText.SORTS + sort];
            int square = wayX * wayX + wayY * wayY;
            return square >= low * low && square <= high * high;
        }

        /** Sets posts after posts, as far as more could still be a HOUSE; the last that was stays. */
        private boolean grow() {
            filled = 0;
            missed = 0;
            lost = 0;
            unseen = 0;
            spots = 0;
            trial.posts = 0;
            int most = kind[KindText.SORTS + KindText.POSTS];
            boolean goesOn = true;
            for (int i = 0; i < most && goesOn; i++) {
                goesOn = fillAcross(i);
                int empty = (i + 1) * trial.rows - filled;
                if (goesOn && i + 1 >= kind[KindText.POSTS] && filled >= empty) {
                    keep(i + 1);
                }
                goesOn = goesOn && 2 * empty <= most * trial.rows;
            }
            return trial.posts > 0;
        }

        private void keep(int posts) {
            trial.posts = posts;
            trial.filled = filled;
            trial.missed = missed;
            trial.lost = lost;
            trial.unseen = unseen;
            trial.spots = spots;
            trial.value = kind[KindText.WORTH] * filled - 5 * missed - 2 * lost;
        }

        /** Fills the PLACES i, j of all rows; false, if it is no HOUSE with these or with more. */
        private boolean fillAcross(int i) {
            int before = NONE;
            for (int j = 0; j < trial.rows; j++) {
                int state = stateAt(trial.x + i * trial.stepX + j * trial.apartX,
                        trial.y + i * trial.stepY + j * trial.apartY);
                if (state < 0) {
                    countUnfilled(state);
                } else if (!fill(state, before)) {
                    return false;
                }
                before = state;
            }
            return missed <= kind[KindText.MISS];
        }

        private void countUnfilled(int state) {
            if (state == UNSEEN) {
                unseen++;
            } else if (state == LOST) {
                lost++;
            } else {
                missed++;
            }
        }

        private boolean fill(int spot, int before) {
            long bit = 1L << map.hole[spot];
            if ((spots & bit) != 0) {
                return false;
            }
            spots |= bit;
            filled++;
            return before < 0
                    || Math.abs(map.full[spot] - map.full[before]) <= kind[KindText.PAIRS];
        }

        private int stateAt(int x, int y) {
            int spot = map.nearest(x, y, kind[KindText.SLACK]);
            if (spot != NONE && isFit(spot)) {
                return spot;
            }
            if (!book.isDug(x, y, week)) {
                return UNSEEN;
            }
            int taken = book.ploughedAt(x, y);
            return taken > 0 && taken >= kind[KindText.DEEP] ? LOST : MISSED;
        }

        /** What PLACE i, j of a HOUSE of the KIND that was set last is: a HOLE, or how it is unfilled. */
        int placeOf(House house, int i, int j) {
            if (kind == null) {
                return NOTHING;
            }
            int state = stateAt(house.x + i * house.stepX + j * house.apartX,
                    house.y + i * house.stepY + j * house.apartY);
            return state < 0 ? state : map.hole[state];
        }
    }

    /** The HOUSES by number, and which of them are EXPLAINED. */
    private static final class HouseList {
        /** One row more than there are HOUSES: it takes up the next one. */
        private final House[] rows = new House[MAX_HOUSES + 1];
        int size = 0;
        /** Of each SPOT the EXPLAINED HOUSE that it is in. */
        final int[] houseOf = new int[MAX_HOLES];
        int chosenCount = 0;
        int chosenValue = 0;
        private int chosen = 0;
        private final int[] valueFrom = new int[MAX_HOUSES + 1];

        HouseList() {
            for (int i = 0; i <= MAX_HOUSES; i++) {
                rows[i] = new House();
            }
        }

        House get(int number) {
            return isIn(number, 0, size - 1) ? rows[number] : null;
        }

        void clear() {
            size = 0;
        }

        /** HOUSES are offered in order, so that a new one comes behind those of its own VALUE. */
        void offer(House house) {
            int alike = findAlike(house);
            if (alike != NONE) {
                if (rows[alike].value >= house.value) {
                    return;
                }
                drop(alike);
            }
            if (size == MAX_HOUSES && rows[size - 1].value >= house.value) {
                return;
            }
            insert(house);
        }

        private int findAlike(House house) {
            for (int i = 0; i < size; i++) {
                if (rows[i].kind == house.kind && rows[i].spots == house.spots) {
                    return i;
                }
            }
            return NONE;
        }

        private void drop(int number) {
            House dropped = rows[number];
            for (int i = number; i + 1 < size; i++) {
                rows[i] = rows[i + 1];
            }
            size--;
            rows[size] = dropped;
        }

        private void insert(House house) {
            House spare = rows[size];
            int at = size;
            while (at > 0 && rows[at - 1].value < house.value) {
                rows[at] = rows[at - 1];
                at--;
            }
            spare.copy(house);
            rows[at] = spare;
            size = Math.min(size + 1, MAX_HOUSES);
        }

        void choose() {
            valueFrom[size] = 0;
            for (int i = size - 1; i >= 0; i--) {
                valueFrom[i] = valueFrom[i + 1] + Math.max(0, rows[i].value);
            }
            chosen = 0;
            chosenCount = 0;
            chosenValue = 0;
            chooseFrom(0, 0, 0, 0);
            nameChosen();
        }

        /**
         * Tries each HOUSE first within and then without, so that of sets alike in VALUE and number
         * the first as a row of numbers comes first and stays.
         */
        private void chooseFrom(int number, int taken, long spots, int value) {
            if (!canBeat(Integer.bitCount(taken), value + valueFrom[number])) {
                return;
            }
            if (number >= size) {
                chosen = taken;
                chosenCount = Integer.bitCount(taken);
                chosenValue = value;
                return;
            }
            House house = rows[number];
            if (house.value > 0 && (house.spots & spots) == 0) {
                chooseFrom(number + 1, taken | 1 << number, spots | house.spots,
                        value + house.value);
            }
            chooseFrom(number + 1, taken, spots, value);
        }

        private boolean canBeat(int count, int value) {
            return value > chosenValue || value == chosenValue && count < chosenCount;
        }

        private void nameChosen() {
            Arrays.fill(houseOf, NONE);
            for (int i = 0; i < size; i++) {
                rows[i].chosen = (chosen >> i & 1) == 1;
                for (int hole = 0; hole < MAX_HOLES && rows[i].chosen; hole++) {
                    if ((rows[i].spots >> hole & 1) == 1) {
                        houseOf[hole] = i;
                    }
                }
            }
        }
    }

    /** The EXPLAINED HOUSES as MEMBERS 0, 1, ..: how they are related, their PHASES and STARTS. */
    private static final class Order {
        /** A HOUSE has three SPOTS at least, and no two have one in common: 13 of 40. */
        private static final int MAX_MEMBERS = 13;
        private static final int SETS = 1 << MAX_MEMBERS;
        private static final int NO_WAY = 1000;
        private static final int MAX_RIVALS = 1000;
        /** A MEMBER's number in a row of PHASES takes four bits. */
        private static final int DIGIT_BITS = 4;

        private int size = 0;
        private final House[] members = new House[MAX_MEMBERS];
        private final int[] memberOf = new int[MAX_HOUSES];
        /** Of each MEMBER a bit for each one that it meets, is later than, is related to. */
        final int[] meets = new int[MAX_MEMBERS];
        final int[] laterThan = new int[MAX_MEMBERS];
        private final int[] related = new int[MAX_MEMBERS];
        /** Of each set of MEMBERS whether none two are related, and a 1 in the digit of each. */
        private final boolean[] isFree = new boolean[SETS];
        private final long[] digits = new long[SETS];
        /** When a set has its PHASES: how many more there must be, in how many ways, the best row. */
        private final int[] phasesLeft = new int[SETS];
        private final int[] waysLeft = new int[SETS];
        private final long[] bestRow = new long[SETS];
        boolean hasWay = true;
        int phaseCount = 0;
        int rivals = 1;
        final int[] phaseOf = new int[MAX_MEMBERS];
        boolean hasStarts = true;
        final int[] earliest = new int[MAX_MEMBERS];
        final int[] latest = new int[MAX_MEMBERS];

        void setPhases(Book book, Sight sight, HouseList list, int week) {
            nameMembers(list);
            meetMembers();
            cutMembers(book, sight, list, week);
            relateMembers();
            listSets();
            int all = (1 << size) - 1;
            phasesLeft[all] = 0;
            waysLeft[all] = 1;
            bestRow[all] = 0;
            for (int done = all - 1; done >= 0; done--) {
                goOnFrom(done);
            }
            takeBestRow();
        }

        private void nameMembers(HouseList list) {
            size = 0;
            Arrays.fill(memberOf, NONE);
            for (int i = 0; i < list.size; i++) {
                House house = list.get(i);
                if (house != null && house.chosen && size < MAX_MEMBERS) {
                    memberOf[i] = size;
                    members[size] = house;
                    size++;
                }
            }
        }

        private void meetMembers() {
            for (int i = 0; i < size; i++) {
                meets[i] = 0;
                for (int j = 0; j < size; j++) {
                    if (i != j && members[i].meets(members[j])) {
                        meets[i] |= 1 << j;
                    }
                }
            }
        }

        private void cutMembers(Book book, Sight sight, HouseList list, int week) {
            Arrays.fill(laterThan, 0);
            for (int i = 0; i < book.cuts.size; i++) {
                int later = memberWith(sight, list, book.cuts.get(i, 0));
                int earlier = memberWith(sight, list, book.cuts.get(i, 1));
                boolean known = book.cuts.get(i, Book.KNOWN) <= week;
                if (known && later != NONE && earlier != NONE && later != earlier) {
                    laterThan[later] |= 1 << earlier;
                }
            }
        }

        private int memberWith(Sight sight, HouseList list, int hole) {
            int spot = isIn(hole, 0, MAX_HOLES - 1) ? sight.spotOf[hole] : NONE;
            int house = isIn(spot, 0, MAX_HOLES - 1) ? list.houseOf[spot] : NONE;
            return memberFor(house);
        }

        int memberFor(int house) {
            return isIn(house, 0, MAX_HOUSES - 1) ? memberOf[house] : NONE;
        }

        private void relateMembers() {
            System.arraycopy(meets, 0, related, 0, MAX_MEMBERS);
            for (int i = 0; i < size; i++) {
                for (int j = 0; j < size; j++) {
                    if ((laterThan[i] >> j & 1) == 1) {
                        related[i] |= 1 << j;
                        related[j] |= 1 << i;
                    }
                }
            }
        }

        private void listSets() {
            isFree[0] = true;
            digits[0] = 0;
            for (int set = 1; set < 1 << size; set++) {
                int lowest = Integer.numberOfTrailingZeros(set);
                int rest = set & (set - 1);
                isFree[set] = isFree[rest] && (related[lowest] & rest) == 0;
                digits[set] = digits[rest] + (1L << digitShift(lowest));
            }
        }

        /** The first MEMBER has the highest digit, so that rows compare as numbers do. */
        private static int digitShift(int member) {
            return DIGIT_BITS * (MAX_MEMBERS - 1 - member);
        }

        /**
         * Each digit of a row counts the PHASES left, its own too: the greatest such row is the
         * first row of PHASES.
         */
        private void goOnFrom(int done) {
            int open = openAfter(done);
            int least = NO_WAY;
            int ways = 0;
            long best = 0;
            for (int part = open; part > 0; part = (part - 1) & open) {
                int left = phasesLeft[done | part] + 1;
                if (!isFree[part] || left > least || left > MAX_MEMBERS) {
                    continue;
                }
                if (left < least) {
                    least = left;
                    ways = 0;
                    best = 0;
                }
                ways = Math.min(MAX_RIVALS, ways + waysLeft[done | part]);
                best = Math.max(best, bestRow[done | part] + left * digits[part]);
            }
            phasesLeft[done] = least;
            waysLeft[done] = ways;
            bestRow[done] = best;
        }

        /** Those that may have the next PHASE: all that they are later than have had one. */
        private int openAfter(int done) {
            int open = 0;
            for (int i = 0; i < size; i++) {
                if ((done >> i & 1) == 0 && (laterThan[i] & ~done) == 0) {
                    open |= 1 << i;
                }
            }
            return open;
        }

        private void takeBestRow() {
            phaseCount = phasesLeft[0];
            rivals = waysLeft[0];
            hasWay = phaseCount != NO_WAY;
            for (int i = 0; i < size; i++) {
                int left = (int) (bestRow[0] >> digitShift(i)) & 15;
                phaseOf[i] = phaseCount - left;
            }
        }

        void setStarts(Book book, Sight sight, HouseList list, int week) {
            hasStarts = hasWay;
            if (!hasWay) {
                return;
            }
            Arrays.fill(earliest, 0);
            Arrays.fill(latest, LAST_START);
            for (int i = 0; i < book.dates.size; i++) {
                int member = memberWith(sight, list, book.dates.get(i, 0));
                if (member != NONE && book.dates.get(i, Book.KNOWN) <= week) {
                    earliest[member] = Math.max(earliest[member], book.dates.get(i, 1));
                    latest[member] = Math.min(latest[member], book.dates.get(i, 2));
                }
            }
            for (int phase = 0; phase < phaseCount; phase++) {
                pushLater(phase);
            }
            for (int phase = phaseCount - 1; phase >= 0; phase--) {
                pushEarlier(phase);
            }
            for (int i = 0; i < size; i++) {
                hasStarts = hasStarts && earliest[i] <= latest[i];
            }
        }

        private void pushLater(int phase) {
            for (int i = 0; i < size; i++) {
                for (int j = 0; phaseOf[i] == phase && j < size; j++) {
                    if ((related[i] >> j & 1) == 1 && phaseOf[j] > phase) {
                        earliest[j] = Math.max(earliest[j], earliest[i] + members[i].life);
                    }
                }
            }
        }

        private void pushEarlier(int phase) {
            for (int i = 0; i < size; i++) {
                for (int j = 0; phaseOf[i] == phase && j < size; j++) {
                    if ((related[i] >> j & 1) == 1 && phaseOf[j] < phase) {
                        latest[j] = Math.min(latest[j], latest[i] - members[j].life);
                    }
                }
            }
        }

        int sureIn(int year) {
            int sure = 0;
            for (int i = 0; i < size; i++) {
                if (latest[i] <= year && earliest[i] + members[i].life > year) {
                    sure++;
                }
            }
            return sure;
        }

        int mostIn(int year) {
            int able = 0;
            for (int i = 0; i < size; i++) {
                if (earliest[i] <= year && latest[i] + members[i].life > year) {
                    able |= 1 << i;
                }
            }
            int most = 0;
            for (int set = able; set > 0; set = (set - 1) & able) {
                if (isFree[set]) {
                    most = Math.max(most, Integer.bitCount(set));
                }
            }
            return most;
        }
    }

    /** All as known in the WEEK that was asked for last; what is found is kept until news come. */
    private static final class Survey {
        static final int NEW = 0;
        static final int SIGHTED = 1;
        static final int FOUND = 2;
        static final int CHOSEN = 3;
        static final int PHASED = 4;
        static final int DATED = 5;
        private static final int TRIALS = 7;
        private static final int LEAST_FENCE = 4;

        private final Book book;
        private final KindText text;
        final Sight sight;
        private final SpotMap map;
        private final Finder finder;
        final HouseList list;
        final Order order;
        private int week = 0;
        private int stage = NEW;
        private final int[] greatest = new int[MAX_KINDS];
        private final int[] strengths = new int[MAX_KINDS];
        /** Of each SPOT the FENCE that it is in. */
        final int[] fenceOf = new int[MAX_HOLES];
        int fenceCount = 0;
        private boolean isFenced = false;

        Survey(Book book, KindText text) {
            this.book = book;
            this.text = text;
            sight = new Sight(book);
            map = new SpotMap();
            finder = new Finder(book, map);
            list = new HouseList();
            order = new Order();
        }

        void forget(int behind) {
            stage = Math.min(stage, behind);
        }

        /** Finds all up to a stage as known in a WEEK; false, if there is no such WEEK. */
        boolean reach(int known, int wanted) {
            if (!isWeek(known)) {
                return false;
            }
            int then = book.weekOfNews(known);
            if (then != week) {
                week = then;
                stage = NEW;
            }
            if (stage < SIGHTED) {
                sight.look(week);
                map.load(sight);
                stage = SIGHTED;
            }
            if (stage < FOUND && wanted >= FOUND) {
                findHouses();
                stage = FOUND;
            }
            if (stage < CHOSEN && wanted >= CHOSEN) {
                list.choose();
                isFenced = false;
                stage = CHOSEN;
            }
            if (stage < PHASED && wanted >= PHASED) {
                order.setPhases(book, sight, list, week);
                stage = PHASED;
            }
            if (stage < DATED && wanted >= DATED) {
                order.setStarts(book, sight, list, week);
                stage = DATED;
            }
            return true;
        }

        private void findHouses() {
            list.clear();
            for (int kind = 0; kind < text.kindCount && kind < MAX_KINDS; kind++) {
                finder.setKind(text.told[kind], week);
                greatest[kind] = finder.seek(kind, list);
                strengths[kind] = NONE;
            }
        }

        int placeOf(House house, int i, int j) {
            if (!isIn(house.kind, 0, MAX_KINDS - 1)) {
                return NOTHING;
            }
            finder.setKind(text.told[house.kind], week);
            return finder.placeOf(house, i, j);
        }

        int strengthOf(int kind) {
            if (!isIn(kind, 0, MAX_KINDS - 1)) {
                return NONE;
            }
            if (strengths[kind] == NONE) {
                strengths[kind] = tryChance(kind);
            }
            return strengths[kind];
        }

        private int tryChance(int kind) {
            int weaker = 0;
            finder.setKind(text.told[kind], week);
            for (int trial = 1; trial <= TRIALS; trial++) {
                map.rotate(trial);
                if (finder.seek(kind, null) < greatest[kind]) {
                    weaker++;
                }
            }
            map.rotate(0);
            return weaker;
        }

        /** Once the HOUSES are chosen: most calls ask for no FENCES, so they are set apart. */
        void setFences() {
            if (isFenced) {
                return;
            }
            isFenced = true;
            Arrays.fill(fenceOf, NONE);
            fenceCount = 0;
            for (int round = 0; round < MAX_HOLES && setFence(); round++) {
                fenceCount++;
            }
        }

        /** Pairs come in order, so that of alike lines the first one stays. */
        private boolean setFence() {
            int most = LEAST_FENCE - 1;
            int first = NONE;
            int second = NONE;
            for (int a = 0; a < map.size; a++) {
                for (int b = a + 1; b < map.size; b++) {
                    int near = isLoose(a) && isLoose(b) ? countNear(a, b) : 0;
                    if (near > most) {
                        most = near;
                        first = a;
                        second = b;
                    }
                }
            }
            for (int i = 0; i < map.size && first != NONE && second != NONE; i++) {
                if (isLoose(i) && isNearLine(first, second, i)) {
                    fenceOf[map.hole[i]] = fenceCount;
                }
            }
            return first != NONE;
        }

        private boolean isLoose(int spot) {
            int hole = map.hole[spot];
            return list.houseOf[hole] == NONE && fenceOf[hole] == NONE;
        }

        private int countNear(int a, int b) {
            if (map.x[a] == map.x[b] && map.y[a] == map.y[b]) {
                return 0;
            }
            int near = 0;
            for (int i = 0; i < map.size; i++) {
                if (isLoose(i) && isNearLine(a, b, i)) {
                    near++;
                }
            }
            return near;
        }

        private boolean isNearLine(int a, int b, int spot) {
            long wayX = map.x[b] - map.x[a];
            long wayY = map.y[b] - map.y[a];
            long off = wayX * (map.y[spot] - map.y[a]) - wayY * (map.x[spot] - map.x[a]);
            return off * off <= 4 * (wayX * wayX + wayY * wayY);
        }
    }
}
