import java.util.ArrayList;
import java.util.Arrays;
import java.util.List;

/**
 * What calls are REFUSED by, the first in its order, and that what the document does not name as
 * changed has stayed: each call is made on a new book, and the book is asked for all there is.
 */
public final class RefusalEdgesTest {
    private static final int NONE = Edges.NONE;
    private static final int NOTHING = Edges.NOTHING;
    private static final int MAX = Edges.MAX;
    private static final int MIN = Edges.MIN;

    /** A call of an object. */
    private interface Call {
        int on(PostHouses x);
    }

    /** A call, and what it answers. */
    private record Due(String name, int want, Call call) { }

    private static final List<Due> REFUSED = new ArrayList<>();
    private static final List<Due> REFUSED_WHEN_FULL = new ArrayList<>();
    private static final List<Due> ASKED = new ArrayList<>();

    public static void main(String[] args) {
        listBadNumbers();
        listNotThere();
        listFull();
        listAsked();
        Edges.says("The first of these in that order.");
        leaveAll(REFUSED, false, true);
        leaveAll(REFUSED, true, true);
        leaveAll(REFUSED_WHEN_FULL, true, true);
        Edges.says("Nothing is promised beyond the answers and state changes described above");
        leaveAll(ASKED, false, false);
        leaveAll(ASKED, true, false);
        refusedTape();
        refusedKinds();
        acceptedChange();
        fullCount();
        Edges.end();
    }

    private static void refuse(String name, int want, Call call) {
        REFUSED.add(new Due(name, want, call));
    }

    private static void full(String name, int want, Call call) {
        REFUSED_WHEN_FULL.add(new Due(name, want, call));
    }

    private static void ask(String name, int want, Call call) {
        ASKED.add(new Due(name, want, call));
    }

    /** Numbers that can't be, with and without other reasons: -1 comes first. */
    private static void listBadNumbers() {
        for (int n : new int[] {-1, MAX, MIN}) {
            refuse("digger", -1, x -> x.hole(n, 5, 5, 5, 5));
            refuse("depth", -1, x -> x.hole(0, 5, 5, n, 5));
            refuse("week", -1, x -> x.hole(0, 5, 5, 5, n));
            refuse("depth", -1, x -> x.retell(0, n, 0));
            refuse("week", -1, x -> x.retell(0, 0, n));
            refuse("depth of no hole", -1, x -> x.retell(40, n, 0));
            refuse("week of no hole", -1, x -> x.retell(-1, 0, n));
            refuse("week", -1, x -> x.strike(0, n));
            refuse("week of no hole", -1, x -> x.strike(40, n));
            refuse("x", -1, x -> x.trench(n, 0, 499, 499, 0));
            refuse("v", -1, x -> x.trench(0, 0, 499, n, 0));
            refuse("week", -1, x -> x.trench(0, 0, 499, 499, n));
            refuse("y", -1, x -> x.plough(0, n, 499, 499, 100));
            refuse("u", -1, x -> x.plough(0, 0, n, 499, 100));
            refuse("depth", -1, x -> x.plough(0, 0, 499, 499, n));
            refuse("error", -1, x -> x.error(n));
            refuse("week", -1, x -> x.cut(0, 1, n));
            refuse("week of itself", -1, x -> x.cut(1, 1, n));
            refuse("week of no hole", -1, x -> x.cut(40, 1, n));
            refuse("week of no hole", -1, x -> x.cut(1, -1, n));
            refuse("from", -1, x -> x.date(0, n, 2000, 0));
            refuse("to", -1, x -> x.date(0, 0, n, 0));
            refuse("week", -1, x -> x.date(0, 0, 2000, n));
            refuse("week of no hole", -1, x -> x.date(40, 0, 2000, n));
        }
        refuse("digger", -1, x -> x.hole(2, 5, 5, 5, 5));
        refuse("x", -1, x -> x.hole(0, -601, 5, 5, 5));
        refuse("x", -1, x -> x.hole(0, 1100, 5, 5, 5));
        refuse("y", -1, x -> x.hole(1, 5, -601, 5, 5));
        refuse("y", -1, x -> x.hole(1, 5, 1100, 5, 5));
        refuse("depth", -1, x -> x.hole(0, 5, 5, 201, 5));
        refuse("week", -1, x -> x.hole(0, 5, 5, 5, 401));
        refuse("depth", -1, x -> x.retell(0, 201, 0));
        refuse("week", -1, x -> x.retell(0, 0, 401));
        refuse("week", -1, x -> x.strike(0, 401));
        refuse("x", -1, x -> x.trench(500, 0, 500, 499, 0));
        refuse("y", -1, x -> x.trench(0, 500, 499, 500, 0));
        refuse("u", -1, x -> x.trench(0, 0, 500, 499, 0));
        refuse("v", -1, x -> x.trench(0, 0, 499, 500, 0));
        refuse("u below x", -1, x -> x.trench(100, 0, 99, 499, 0));
        refuse("v below y", -1, x -> x.trench(0, 100, 499, 99, 0));
        refuse("week", -1, x -> x.trench(0, 0, 499, 499, 401));
        refuse("u", -1, x -> x.plough(0, 0, 500, 499, 100));
        refuse("v", -1, x -> x.plough(0, 0, 499, 500, 100));
        refuse("u below x", -1, x -> x.plough(100, 0, 99, 499, 100));
        refuse("v below y", -1, x -> x.plough(0, 100, 499, 99, 100));
        refuse("depth", -1, x -> x.plough(0, 0, 499, 499, 101));
        refuse("error", -1, x -> x.error(6));
        refuse("week", -1, x -> x.cut(0, 1, 401));
        refuse("week of itself", -1, x -> x.cut(0, 0, 401));
        refuse("to", -1, x -> x.date(0, 0, 2001, 0));
        refuse("to below from", -1, x -> x.date(0, 500, 499, 0));
        refuse("to below from of no hole", -1, x -> x.date(40, 500, 499, 0));
        refuse("week", -1, x -> x.date(0, 0, 2000, 401));
    }

    /** No such HOLE, with and without other reasons: -2 comes ahead of -4 and of -5. */
    private static void listNotThere() {
        for (int n : new int[] {-1, 40, MAX, MIN}) {
            refuse("hole " + n, -2, x -> x.retell(n, 0, 0));
            refuse("hole " + n, -2, x -> x.strike(n, 0));
            refuse("hole " + n, -2, x -> x.cut(n, 0, 0));
            refuse("hole " + n, -2, x -> x.cut(0, n, 0));
            refuse("hole " + n + " itself", -2, x -> x.cut(n, n, 0));
            refuse("hole " + n, -2, x -> x.date(n, 700, 700, 0));
        }
        refuse("itself", -4, x -> x.cut(0, 0, 0));
        refuse("itself", -4, x -> x.cut(18, 18, 400));
    }

    private static void listFull() {
        full("hole", -5, x -> x.hole(0, 5, 5, 5, 0));
        full("hole", -5, x -> x.hole(1, -600, 1099, 200, 400));
        full("retell", -5, x -> x.retell(0, 0, 0));
        full("trench", -5, x -> x.trench(0, 0, 499, 499, 0));
        full("plough", -5, x -> x.plough(0, 0, 499, 499, 100));
        full("cut", -5, x -> x.cut(4, 0, 0));
        full("date", -5, x -> x.date(0, 700, 700, 0));
    }

    /** Calls that only ask, or are of the TAPE and answer NONE. */
    private static void listAsked() {
        for (int week : new int[] {-1, 401, MAX, MIN}) {
            ask("frame", NOTHING, x -> x.frame(week, 0));
            ask("spot", NOTHING, x -> x.spot(0, week, 2));
            ask("houses", NONE, x -> x.houses(week));
            ask("house", NOTHING, x -> x.house(week, 0, 0));
            ask("place", NOTHING, x -> x.place(week, 0, 0, 0));
            ask("explained", NONE, x -> x.explained(week, 0));
            ask("strength", NONE, x -> x.strength(0, week));
            ask("pair", NONE, x -> x.pair(week, 0, 1, 0));
            ask("phases", NONE, x -> x.phases(week, 0));
            ask("phase", NONE, x -> x.phase(week, 0));
            ask("start", NONE, x -> x.start(week, 0, 0));
            ask("stands", NONE, x -> x.stands(week, 0, 0));
            ask("fences", NONE, x -> x.fences(week));
            ask("led", NONE, x -> x.led(0, week, 0));
            ask("count", NONE, x -> x.count(week));
            ask("end", NONE, x -> x.end(week));
        }
        ask("end", NONE, x -> x.end(21));
        ask("end", 20, x -> x.end(20));
        ask("fault", 4, PostHouses::fault);
        ask("strength", NONE, x -> x.strength(3, 0));
        for (int week : new int[] {0, 1, 3, 8, 200, 400}) {
            ask("houses", -7, x -> x.houses(week));
            ask("strength", -7, x -> x.strength(1, week));
            ask("phases", -7, x -> x.phases(week, 1));
            ask("stands", -7, x -> x.stands(week, 700, 1));
            ask("fences", -7, x -> x.fences(week));
            ask("led", -7, x -> x.led(0, week, 1));
        }
    }

    /** A book with something of each sort; kinds() was refused by it last, then a TAPE was fed. */
    private static PostHouses book() {
        PostHouses x = Edges.smalls(100, 100, 110, 110, 300, 300);
        for (int i = 0; i < 5; i++) {
            x.hole(0, 10 + 40 * i, 450 + i % 2, 30, i);
        }
        x.hole(1, 101, 99, 60, 1);
        x.hole(1, 331, 301, 61, 3);
        x.hole(1, 480, 20, 62, 0);
        x.retell(12, 70, 2);
        x.retell(1, 40, 5);
        x.strike(11, 8);
        x.trench(0, 0, 400, 400, 3);
        x.plough(90, 90, 150, 150, 12);
        x.error(1);
        Edges.kinds(x, "kind{step 30 to 30,apart 50 to 50,slack 1,miss 1,life 40};"
                + "kind{step 20 to 40,apart 40 to 60,worth 3,miss 4}");
        x.cut(5, 1, 2);
        x.cut(17, 18, 4);
        x.date(0, 500, 520, 1);
        x.date(17, 505, 530, 2);
        x.date(4, 540, 600, 6);
        Edges.feed(x, "kind");
        x.kinds();
        x.feed(0x6b696e64, 0x7b7d2020, 0x20202020, 0x20202020, 0x20202020);
        return x;
    }

    /** The same book, filled up with what changes nothing but the counts. */
    private static PostHouses fullBook() {
        PostHouses x = book();
        while (x.count(0) < 40) {
            x.hole(0, -9, 9, 9, 400);
        }
        while (x.count(1) < 60) {
            x.retell(30, 9, 400);
        }
        while (x.count(2) < 20) {
            x.trench(0, 0, 1, 1, 400);
        }
        while (x.count(3) < 20) {
            x.plough(0, 0, 1, 1, 1);
        }
        while (x.count(5) < 60) {
            x.cut(30, 31, 400);
        }
        while (x.count(6) < 60) {
            x.date(30, 0, 2000, 400);
        }
        return x;
    }

    /** All that the book says in a week. */
    private static int[] answers(PostHouses x, int week) {
        List<Integer> all = new ArrayList<>();
        for (int what = 0; what < 8; what++) {
            all.add(x.count(what));
        }
        all.add(x.fault());
        for (int what = 0; what < 4; what++) {
            all.add(x.frame(week, what));
        }
        for (int hole : new int[] {0, 1, 4, 11, 12, 16, 17, 18, 19, 39}) {
            all.add(x.spot(hole, week, 0));
            all.add(x.spot(hole, week, 3));
            all.add(x.led(hole, week, 0));
            all.add(x.led(hole, week, 1));
        }
        all.add(x.houses(week));
        all.add(x.explained(week, 0));
        all.add(x.explained(week, 1));
        all.add(x.strength(0, week));
        all.add(x.strength(1, week));
        all.add(x.phases(week, 0));
        all.add(x.phases(week, 1));
        all.add(x.fences(week));
        all.add(x.stands(week, 510, 0));
        all.add(x.stands(week, 545, 1));
        for (int house = 0; house < 4; house++) {
            for (int what : new int[] {0, 1, 5, 6, 8, 9}) {
                all.add(x.house(week, house, what));
            }
            all.add(x.place(week, house, 1, 1));
            all.add(x.pair(week, house, 0, 0));
            all.add(x.pair(week, house, 1, 1));
            all.add(x.phase(week, house));
            all.add(x.start(week, house, 0));
            all.add(x.start(week, house, 1));
        }
        return all.stream().mapToInt(Integer::intValue).toArray();
    }

    /** The TAPE is what it was, too, and ERROR. */
    private static int tapeAndError(PostHouses x) {
        return 10 * x.kinds() + x.error(2);
    }

    private static void leaveAll(List<Due> calls, boolean isFull, boolean isTold) {
        int[] weeks = {7, 0, 400, 2};
        for (int week : weeks) {
            PostHouses plain = isFull ? fullBook() : book();
            int status = plain.status();
            int[] want = answers(plain, week);
            int tape = tapeAndError(plain);
            Edges.due("the tape is one of one kind, the error 1", tape, 11);
            for (Due due : calls) {
                PostHouses x = isFull ? fullBook() : book();
                int got = due.call.on(x);
                if (due.want != -7) {
                    Edges.due(due.name, got, due.want);
                }
                Edges.due("status behind " + due.name, x.status(), isTold ? due.want : status);
                Edges.due("all stayed behind " + due.name + " in " + week,
                        Arrays.equals(answers(x, week), want) ? 1 : 0, 1);
                Edges.due("tape and error behind " + due.name, tapeAndError(x), tape);
            }
        }
    }

    private static void refusedTape() {
        Edges.says("NONE, if there would be more than 400.");
        PostHouses x = book();
        while (x.count(7) < 400) {
            x.feed(0x20202020, 0x20202020, 0x20202020, 0x20202020, 0x20202020);
        }
        int[] want = answers(x, 7);
        Edges.due("full", x.feed(0x3d3d3d3d, 0, 0, 0, 0), NONE);
        Edges.due("all stayed", Arrays.equals(answers(x, 7), want) ? 1 : 0, 1);
        Edges.due("the tape stayed", x.kinds(), 1);
        Edges.due("no fault", x.fault(), NONE);
    }

    private static void refusedKinds() {
        Edges.says("-6: they stay, FAULT is told.");
        PostHouses x = book();
        int[] want = answers(x, 7);
        x.end(5);
        Edges.told("kinds", x, x.kinds(), -6);
        int[] got = answers(x, 7);
        Edges.due("the tape is taken", got[7], 0);
        Edges.due("fault", got[8], 5);
        got[7] = want[7];
        got[8] = want[8];
        Edges.due("all else stayed", Arrays.equals(got, want) ? 1 : 0, 1);
    }

    /** The answers looked at do change by what is not refused, or they would show nothing. */
    private static void acceptedChange() {
        Edges.says("as known in a WEEK");
        Call[] calls = {x -> x.hole(0, 5, 5, 5, 5), x -> x.retell(0, 0, 0), x -> x.strike(0, 0),
            x -> x.trench(0, 0, 499, 499, 0), x -> x.plough(0, 0, 499, 499, 100),
            x -> x.error(0), PostHouses::kinds, x -> x.cut(4, 0, 0), x -> x.date(0, 700, 700, 0),
            x -> x.end(19)};
        int[] before = answers(book(), 7);
        for (Call call : calls) {
            PostHouses x = book();
            Edges.due("it is not refused", Math.min(0, call.on(x)), 0);
            boolean same = Arrays.equals(answers(x, 7), before);
            Edges.due("something has changed", same ? 1 : 0, 0);
        }
    }

    private static void fullCount() {
        Edges.says("-5 no room");
        PostHouses x = fullBook();
        int[] want = {40, 60, 20, 20, 2, 60, 60, 20};
        for (int what = 0; what < want.length; what++) {
            Edges.due("count(" + what + ")", x.count(what), want[what]);
        }
    }
}
