import java.util.Map;
import java.util.function.Consumer;
import java.util.function.ToIntFunction;

/** The sentences of the promises 1 to 21 that name a boundary case: each has a test of its own. */
public final class CallsBoundsTest {
    private static final int NO_SUCH = -1, BAD_VALUE = -2, BAD_TEXT = -3, TOO_MANY = -4, NOT_POSSIBLE = -5, NONE = -6;
    private static final int OLD_READ = 0, BATCH = 2, STARVE = 3, MOVE = 4, SERVE = 5;
    private static final int READS = 0, WRITES = 1;

    private static final Answers answers = new Answers();

    public static void main(String[] args) {
        newObject();
        set();
        slip();
        tear();
        serve();
        pass();
        of();
        waiting();
        log();
        count();
        whatIf();
        next();
        servedIn();
        all();
        joined();
        put();
        wipe();
        fault();
        carryOut();
        undo();
        save();
        restore();
        answers.end();
    }

    private static void sentence(String words) {
        answers.sentence(words);
    }

    private static void due(String call, long want, long got) {
        answers.due(call, want, got);
    }

    /** The answer of a call that is no change, when its argument is far out of its range. */
    private static void wild(String name, int want, ToIntFunction<Integer> call) {
        for (int wild : Calls.WILD) {
            due(name + " of " + wild, want, call.applyAsInt(wild));
        }
    }

    // ---- promise 1

    private static void newObject() {
        sentence("Creates an archive without slips.");
        DrawerSlips x = new DrawerSlips();
        due("slips that read", 0, x.count(1));
        due("slips that write", 0, x.count(2));
        due("slips that were served", 0, x.count(4));
        due("the first of reads", NO_SUCH, x.waiting(READS, 0));
        due("the first of writes", NO_SUCH, x.waiting(WRITES, 0));
        due("the slip 0", NO_SUCH, x.of(0, 0));
        due("the log", NO_SUCH, x.log(0, 0));
        due("the next one", NONE, x.next(0));
        due("to undo", NOT_POSSIBLE, x.undo());
        due("slot 0", NOT_POSSIBLE, x.restore(0));
        due("slot 1", NOT_POSSIBLE, x.restore(1));
        DrawerSlips y = new DrawerSlips();
        y.slip(READS, 1, 1);
        due("without those of another object", 0, x.count(1));
    }

    // ---- promise 2

    private static void set() {
        sentence("Returns the previous value; BAD_VALUE if there is no such setting, or the value is out of its range.");
        DrawerSlips x = new DrawerSlips();
        for (int value = 0; value < 2; value++) {
            int any = value;
            due("setting -1, to " + value, BAD_VALUE, x.set(-1, value));
            due("setting 6, to " + value, BAD_VALUE, x.set(6, value));
            wild("no such setting, to " + value, BAD_VALUE, wild -> x.set(wild, any));
        }
        wild("no such value", BAD_VALUE, wild -> x.set(MOVE, wild));
        due("the first value", 1, x.set(MOVE, 0));
        due("the least value", 0, x.set(MOVE, 9));
        due("below it", BAD_VALUE, x.set(MOVE, -1));
        due("above the most", BAD_VALUE, x.set(MOVE, 10));
        due("the most value, set to the same", 9, x.set(MOVE, 9));
        due("it stays", 9, x.count(14));
        due("changes", 3, x.count(17));
        int[] others = {50, 200, 4, 2, 9, 2};
        for (int setting = 0; setting < 6; setting++) {
            due("setting " + setting, others[setting], x.count(10 + setting));
        }
    }

    // ---- promise 3

    private static void slip() {
        slipWritesOrReads();
        slipsFirstDrawer();
        slipsManyDrawers();
        slipOutOfRange();
        slipAbove30();
    }

    private static void slipWritesOrReads() {
        sentence("`writes`: 1 if it writes, 0 if it reads");
        DrawerSlips x = new DrawerSlips();
        due("1", 0, x.slip(1, 5, 1));
        due("0", 1, x.slip(0, 5, 1));
        due("2", BAD_VALUE, x.slip(2, 5, 1));
        due("-1", BAD_VALUE, x.slip(-1, 5, 1));
        wild("writes", BAD_VALUE, wild -> x.slip(wild, 5, 1));
        due("the first writes", 1, x.of(0, 0));
        due("the second reads", 0, x.of(1, 0));
        due("no third one", 2, x.slip(1, 5, 1));
    }

    private static void slipsFirstDrawer() {
        sentence("`drawer`: its first drawer, 0 to 99");
        DrawerSlips x = new DrawerSlips();
        due("0", 0, x.slip(READS, 0, 1));
        due("99", 1, x.slip(READS, 99, 1));
        due("-1", BAD_VALUE, x.slip(READS, -1, 1));
        due("-1, of two drawers", BAD_VALUE, x.slip(READS, -1, 2));
        due("100", BAD_VALUE, x.slip(READS, 100, 1));
        wild("drawer", BAD_VALUE, wild -> x.slip(READS, wild, 1));
        wild("drawer, of nine", BAD_VALUE, wild -> x.slip(READS, wild, 9));
        due("the first one's", 0, x.of(0, 1));
        due("the second one's", 99, x.of(1, 1));
    }

    private static void slipsManyDrawers() {
        sentence("`many`: 1 to 9 drawers");
        DrawerSlips x = new DrawerSlips();
        due("1", 0, x.slip(READS, 5, 1));
        due("9", 1, x.slip(READS, 5, 9));
        due("0", BAD_VALUE, x.slip(READS, 5, 0));
        due("10", BAD_VALUE, x.slip(READS, 5, 10));
        wild("many", BAD_VALUE, wild -> x.slip(READS, 5, wild));
        wild("many from 99 on", BAD_VALUE, wild -> x.slip(READS, 99, wild));
        due("the last one of 1", 5, x.of(0, 2));
        due("the last one of 9", 13, x.of(1, 2));
    }

    private static void slipOutOfRange() {
        sentence("Returns its number, or that of the one with which it is joined; BAD_VALUE if an argument is out of range, or a drawer would be above 99");
        DrawerSlips x = new DrawerSlips();
        due("up to 99", 0, x.slip(READS, 91, 9));
        due("up to 100", BAD_VALUE, x.slip(READS, 92, 9));
        due("two from 98 on", 1, x.slip(READS, 98, 2));
        due("two from 99 on", BAD_VALUE, x.slip(READS, 99, 2));
        due("behind one, up to 99", 2, x.slip(WRITES, 97, 1));
        due("joined, up to 99", 2, x.slip(WRITES, 98, 2));
        due("behind 99", BAD_VALUE, x.slip(WRITES, 100, 1));
    }

    private static void slipAbove30() {
        sentence("TOO_MANY if 30 wait, and it is not joined.");
        DrawerSlips x = Calls.full();
        due("of its sort, but not behind one", TOO_MANY, x.slip(READS, 2, 1));
        due("behind one of the other sort", TOO_MANY, x.slip(READS, 4, 1));
        due("behind one, but together ten", TOO_MANY, x.slip(READS, 1, 9));
        due("behind one, and together nine", 0, x.slip(READS, 1, 8));
        due("a wrong one", BAD_VALUE, x.slip(READS, 1, 10));
        x.tear(7);
        due("when 29 wait", 30, x.slip(READS, 90, 1));
        due("when 30 wait again", TOO_MANY, x.slip(READS, 92, 1));
        due("joined with the new one", 30, x.slip(READS, 91, 1));
    }

    // ---- promise 4

    private static void tear() {
        sentence("Returns its age; NO_SUCH if no such slip waits.");
        DrawerSlips x = new DrawerSlips();
        due("when none waits", NO_SUCH, x.tear(0));
        x.slip(READS, 5, 1);
        due("in the minute in which it came", 0, x.tear(0));
        due("torn already", NO_SUCH, x.tear(0));
        x.slip(READS, 5, 1);
        x.serve(1);
        due("served already", NO_SUCH, x.tear(1));
        x.slip(WRITES, 5, 1);
        x.pass(999);
        due("the number of none yet", NO_SUCH, x.tear(3));
        wild("tear", NO_SUCH, x::tear);
        due("an old one", 999, x.tear(2));
        DrawerSlips y = Calls.full();
        due("the last of 30", 0, y.tear(29));
        due("the first of 30", 0, y.tear(0));
        due("28 are left", 28, y.count(1) + y.count(2));
    }

    // ---- promise 5

    private static void serve() {
        serveOneToThirty();
        serveFewer();
        serveNone();
        serveTooLate();
    }

    private static void serveOneToThirty() {
        sentence("`many`: 1 to 30");
        DrawerSlips x = Calls.full();
        due("0", BAD_VALUE, x.serve(0));
        due("31", BAD_VALUE, x.serve(31));
        wild("serve", BAD_VALUE, x::serve);
        due("1", 1, x.serve(1));
        due("29 wait", 29, x.count(1) + x.count(2));
        x.undo();
        due("30", 30, x.serve(30));
        due("none waits", 0, x.count(1) + x.count(2));
    }

    private static void serveFewer() {
        sentence("Returns how many are served (fewer, if no more wait)");
        DrawerSlips x = new DrawerSlips();
        x.slip(READS, 5, 1);
        x.slip(WRITES, 5, 1);
        x.slip(WRITES, 9, 1);
        due("as many as are asked for", 2, x.serve(2));
        due("one is left", 1, x.serve(2));
        due("all of them", 3, x.count(4));
        DrawerSlips y = Calls.full();
        y.tear(3);
        due("29 of 30", 29, y.serve(30));
    }

    private static void serveNone() {
        sentence("BAD_VALUE if many is out of range; NOT_POSSIBLE if none waits");
        DrawerSlips x = new DrawerSlips();
        due("none came", NOT_POSSIBLE, x.serve(1));
        due("none came for 30", NOT_POSSIBLE, x.serve(30));
        due("out of range, and none came", BAD_VALUE, x.serve(0));
        x.slip(READS, 5, 1);
        x.tear(0);
        due("the only one is torn", NOT_POSSIBLE, x.serve(1));
        x.slip(READS, 5, 1);
        x.serve(1);
        due("the only one is served", NOT_POSSIBLE, x.serve(1));
        due("changes", 4, x.count(17));
    }

    private static void serveTooLate() {
        sentence("or the minute of now would be above 99999");
        DrawerSlips x = Calls.atMinute(99990);
        x.slip(READS, 5, 2);
        x.slip(READS, 8, 1);
        due("two, until 99990 + 9 + 3", NOT_POSSIBLE, x.serve(2));
        due("none of them is served", 0, x.count(4));
        due("all that wait", NOT_POSSIBLE, x.serve(30));
        due("one, until 99999", 1, x.serve(1));
        due("now", 99999, x.count(0));
        due("the other one", NOT_POSSIBLE, x.serve(1));
        DrawerSlips y = Calls.atMinute(99991);
        y.slip(READS, 5, 2);
        due("one, until 100000", NOT_POSSIBLE, y.serve(1));
        y.set(SERVE, 1);
        due("one, until 99998", 1, y.serve(1));
    }

    // ---- promise 6

    private static void pass() {
        sentence("`minutes`: 1 to 999");
        DrawerSlips x = new DrawerSlips();
        due("0", BAD_VALUE, x.pass(0));
        due("1000", BAD_VALUE, x.pass(1000));
        wild("pass", BAD_VALUE, x::pass);
        due("1", 1, x.pass(1));
        due("999", 1000, x.pass(999));

        sentence("Minutes pass, in which the arm stands.");
        x.slip(READS, 50, 1);
        x.serve(1);
        x.pass(999);
        due("the arm", 51, x.count(3));
        due("drawers that it went", 50, x.count(6));

        sentence("Returns the minute of now then; BAD_VALUE if minutes is out of range; NOT_POSSIBLE if it would be above 99999.");
        DrawerSlips y = Calls.atMinute(99990);
        due("100000", NOT_POSSIBLE, y.pass(10));
        due("100989", NOT_POSSIBLE, y.pass(999));
        due("out of range, too", BAD_VALUE, y.pass(1000));
        due("99999", 99999, y.pass(9));
        due("100000 by one", NOT_POSSIBLE, y.pass(1));
        due("out of range at the end", BAD_VALUE, y.pass(0));
        due("now", 99999, y.count(0));
    }

    // ---- promise 7

    private static void of() {
        ofWhat();
        ofNoSuch();
    }

    private static void ofWhat() {
        sentence("0 whether it writes (1 or 0), 1 its first drawer, 2 its last one, 3 its age, 4 whether it is too old (1 or 0), 5 how many were joined with it");
        DrawerSlips x = new DrawerSlips();
        x.slip(READS, 0, 1);
        x.slip(WRITES, 99, 1);
        x.slip(READS, 20, 1);
        int[] read = {0, 0, 0, 0, 0, 0};
        int[] write = {1, 99, 99, 0, 0, 0};
        for (int what = 0; what < 6; what++) {
            due("a read as it comes, " + what, read[what], x.of(0, what));
            due("a write as it comes, " + what, write[what], x.of(1, what));
        }
        for (int drawer = 21; drawer <= 28; drawer++) {
            due("joins with 2", 2, x.slip(READS, drawer, 1));
        }
        due("joined with it, at most", 8, x.of(2, 5));
        due("its last drawer then", 28, x.of(2, 2));
        due("none was joined with the others", 0, x.of(0, 5) + x.of(1, 5));
        x.pass(49);
        due("not too old", 0, x.of(0, 4));
        x.pass(1);
        due("too old to read", 1, x.of(0, 4));
        due("not too old to write", 0, x.of(1, 4));
        due("its age", 50, x.of(1, 3));
        x.tear(2);
        x.slip(READS, 20, 9);
        due("none was joined with one in the place of another", 0, x.of(3, 5));
        x.slip(WRITES, 40, 1);
        x.slip(WRITES, 41, 8);
        due("eight drawers are joined as one slip", 1, x.of(4, 5));
    }

    private static void ofNoSuch() {
        sentence("Returns the number; NO_SUCH if no such slip waits; BAD_VALUE if what is out of range.");
        DrawerSlips x = new DrawerSlips();
        due("none waits", NO_SUCH, x.of(0, 0));
        x.slip(READS, 5, 1);
        due("no such one yet", NO_SUCH, x.of(1, 0));
        wild("of", NO_SUCH, wild -> x.of(wild, 0));
        due("what 5", 0, x.of(0, 5));
        due("what 6", BAD_VALUE, x.of(0, 6));
        wild("what", BAD_VALUE, wild -> x.of(0, wild));
        due("neither", NO_SUCH, x.of(1, 6));
        x.tear(0);
        due("torn", NO_SUCH, x.of(0, 0));
        due("torn, and what 6", NO_SUCH, x.of(0, 6));
        x.slip(READS, 5, 1);
        x.serve(1);
        due("served", NO_SUCH, x.of(1, 3));
    }

    // ---- promise 8

    private static void waiting() {
        waitingByDrawerThenNumber();
        waitingSorts();
        waitingFirst();
        waitingRanks();
    }

    private static void waitingByDrawerThenNumber() {
        sentence("Returns a slip that waits, by its first drawer, then by its number.");
        DrawerSlips x = new DrawerSlips();
        int[] drawers = {50, 99, 10, 50, 0, 10};
        for (int drawer : drawers) {
            x.slip(READS, drawer, 1);
        }
        x.tear(0);
        due("behind one that was torn", 6, x.slip(READS, 50, 1));
        int[] order = {4, 2, 5, 3, 6, 1};
        for (int rank = 0; rank < 6; rank++) {
            due("rank " + rank, order[rank], x.waiting(READS, rank));
        }
    }

    private static void waitingSorts() {
        sentence("`writes`: 1 for those that write, 0 for those that read");
        DrawerSlips x = new DrawerSlips();
        x.slip(WRITES, 5, 1);
        x.slip(READS, 9, 1);
        due("1", 0, x.waiting(1, 0));
        due("0", 1, x.waiting(0, 0));
        due("2", BAD_VALUE, x.waiting(2, 0));
        due("-1", BAD_VALUE, x.waiting(-1, 0));
        wild("neither", BAD_VALUE, wild -> x.waiting(wild, 0));
    }

    private static void waitingFirst() {
        sentence("`rank`: 0 for the first one");
        DrawerSlips x = new DrawerSlips();
        x.slip(READS, 99, 1);
        x.slip(READS, 0, 1);
        due("-1", NO_SUCH, x.waiting(READS, -1));
        due("0", 1, x.waiting(READS, 0));
        due("1", 0, x.waiting(READS, 1));
        due("2", NO_SUCH, x.waiting(READS, 2));
    }

    private static void waitingRanks() {
        sentence("Returns the slip; BAD_VALUE if writes is neither; NO_SUCH if there are not so many.");
        DrawerSlips x = new DrawerSlips();
        due("none waits", NO_SUCH, x.waiting(READS, 0));
        due("neither, and none waits", BAD_VALUE, x.waiting(2, 0));
        for (int i = 0; i < 30; i++) {
            x.slip(WRITES, 3 * i, 1);
        }
        due("the first of 30", 0, x.waiting(WRITES, 0));
        due("the last of 30", 29, x.waiting(WRITES, 29));
        due("the one behind it", NO_SUCH, x.waiting(WRITES, 30));
        due("of the other sort", NO_SUCH, x.waiting(READS, 0));
        wild("rank", NO_SUCH, wild -> x.waiting(WRITES, wild));
        x.tear(15);
        due("the last of 29", 29, x.waiting(WRITES, 28));
        due("the one behind it", NO_SUCH, x.waiting(WRITES, 29));
    }

    // ---- promise 9

    private static void log() {
        logsLatest();
        logWhat();
        logNoSuch();
    }

    private static void logsLatest() {
        sentence("`ago`: 0 for the latest one");
        DrawerSlips x = new DrawerSlips();
        for (int served = 1; served <= 45; served++) {
            x.slip(READS, 99, 1);
            x.serve(1);
            due("the latest of " + served, served - 1, x.log(0, 0));
            for (int ago = 1; ago < Math.min(served, 5); ago++) {
                due(ago + " before it", served - 1 - ago, x.log(ago, 0));
            }
        }
        for (int ago = 0; ago < 20; ago++) {
            due(ago + " ago", 44 - ago, x.log(ago, 0));
        }
    }

    private static void logWhat() {
        sentence("0 its number, 1 its wait, 2 whether it wrote (1 or 0)");
        DrawerSlips x = new DrawerSlips();
        x.slip(READS, 30, 1);
        x.slip(WRITES, 20, 3);
        x.slip(READS, 10, 2);
        x.pass(5);
        x.serve(3);
        int[][] want = {{1, 5 + 10 + 4 + 18 + 2 + 11 + 6, 1}, {0, 5 + 10 + 4 + 18 + 2, 0}, {2, 5 + 10 + 4, 0}};
        for (int ago = 0; ago < 3; ago++) {
            for (int what = 0; what < 3; what++) {
                due("log(" + ago + ", " + what + ")", want[ago][what], x.log(ago, what));
            }
        }
        due("what 3", BAD_VALUE, x.log(0, 3));
        due("what -1", BAD_VALUE, x.log(0, -1));
        wild("what", BAD_VALUE, wild -> x.log(2, wild));
    }

    private static void logNoSuch() {
        sentence("Returns the number; NO_SUCH if there is no such entry; BAD_VALUE if what is out of range.");
        DrawerSlips x = new DrawerSlips();
        due("none was served", NO_SUCH, x.log(0, 0));
        due("what 3 of none", NO_SUCH, x.log(0, 3));
        x.slip(READS, 5, 1);
        x.tear(0);
        due("one was torn", NO_SUCH, x.log(0, 0));
        for (int served = 1; served <= 22; served++) {
            x.slip(READS, 99, 1);
            x.serve(1);
            due("the oldest of " + served, Math.max(served - 19, 1), x.log(Math.min(served, 20) - 1, 0));
            due("beyond it", NO_SUCH, x.log(Math.min(served, 20), 0));
        }
        wild("ago", NO_SUCH, wild -> x.log(wild, 0));
        due("what 3 beyond it", NO_SUCH, x.log(20, 3));
    }

    // ---- promise 10

    private static void count() {
        countNowSlipsAndArm();
        countLatestBatch();
        countWaitsAndServed();
        countDrawersGone();
        countOutOfRange();
    }

    private static void countNowSlipsAndArm() {
        sentence("0 the minute of now, 1 slips that wait and read, 2 that write, 3 the drawer of the arm");
        for (int sort = 0; sort < 2; sort++) {
            DrawerSlips x = new DrawerSlips();
            x.set(OLD_READ, 999);
            for (int i = 0; i < 30; i++) {
                x.slip(sort, 99 - 3 * i, 1);
                due("of its sort", i + 1, x.count(1 + sort));
                due("of the other sort", 0, x.count(2 - sort));
            }
            due("now", 0, x.count(0));
            due("the arm", 0, x.count(3));
            x.serve(30);
            due("none of its sort", 0, x.count(1 + sort));
            due("the arm at the last drawer", 99, x.count(3));
            due("now, behind 30 slips and the ways to them", 12 + 29 * 2 + 30 * 2, x.count(0));
        }
        due("the last minute", 99999, Calls.atMinute(99999).count(0));
    }

    private static void countLatestBatch() {
        sentence("7 batches so far, 8 slips of the latest batch so far (0 ahead of the first one), 9 batches of reads that went ahead");
        DrawerSlips x = new DrawerSlips();
        due("batches at first", 0, x.count(7));
        due("slips at first", 0, x.count(8));
        due("ahead at first", 0, x.count(9));
        x.slip(WRITES, 50, 1);
        x.slip(READS, 5, 1);
        x.slip(READS, 7, 1);
        due("slips ahead of the first batch", 0, x.count(8));
        int[][] want = {{1, 1, 1}, {1, 2, 1}, {2, 1, 0}};
        for (int served = 0; served < 3; served++) {
            x.serve(1);
            for (int what = 0; what < 3; what++) {
                due("count(" + (7 + what) + ") behind " + (served + 1), want[served][what], x.count(7 + what));
            }
        }
        due("the latest batch stays when none waits", 1, x.count(8));
    }

    private static void countWaitsAndServed() {
        sentence("4 slips that were served so far, 5 the longest wait so far");
        DrawerSlips x = new DrawerSlips();
        due("served at first", 0, x.count(4));
        due("the longest wait at first", 0, x.count(5));
        x.slip(READS, 0, 1);
        x.pass(500);
        due("one that waits yet", 0, x.count(5));
        x.serve(1);
        due("one that was served", 502, x.count(5));
        x.slip(READS, 1, 1);
        x.pass(600);
        x.tear(1);
        due("one that was torn", 502, x.count(5));
        for (int i = 0; i < 25; i++) {
            x.slip(READS, 99, 1);
            x.serve(1);
        }
        due("more than the log has", 26, x.count(4));
        due("longer than all of the log", 502, x.count(5));
    }

    private static void countDrawersGone() {
        sentence("6 drawers that the arm went so far to first drawers (not those that it served)");
        DrawerSlips x = new DrawerSlips();
        due("at first", 0, x.count(6));
        x.slip(READS, 0, 9);
        x.serve(1);
        due("no way, and nine served", 0, x.count(6));
        x.slip(READS, 99, 1);
        x.serve(1);
        due("from 9 up to 99", 90, x.count(6));
        x.slip(READS, 99, 1);
        x.serve(1);
        due("none at 99", 90, x.count(6));
        x.set(MOVE, 0);
        x.slip(READS, 0, 1);
        x.serve(1);
        due("down to 0 in no minutes", 189, x.count(6));
    }

    private static void countOutOfRange() {
        sentence("10 to 15 the settings, 16 the length of the pad, 17 how many changes can be undone Returns the number; BAD_VALUE if what is out of range.");
        DrawerSlips x = Calls.withText("t".repeat(80));
        int[] settings = {50, 200, 4, 2, 1, 2};
        for (int setting = 0; setting < 6; setting++) {
            due("setting " + setting, settings[setting], x.count(10 + setting));
        }
        due("a full pad", 80, x.count(16));
        x.wipe();
        due("an empty one", 0, x.count(16));
        due("no changes", 0, x.count(17));
        for (int i = 1; i <= 8; i++) {
            x.pass(1);
            due(i + " changes", Math.min(i, 6), x.count(17));
        }
        due("18", BAD_VALUE, x.count(18));
        due("-1", BAD_VALUE, x.count(-1));
        wild("count", BAD_VALUE, x::count);
    }

    // ---- promises 11 to 14

    private static void whatIf() {
        sentence("what if; nothing changes (the bound of minutes does not matter)");
        DrawerSlips x = Calls.atMinute(99999);
        x.slip(READS, 50, 1);
        x.slip(WRITES, 20, 1);
        Map<String, Integer> before = Calls.everything(x);
        due("next(2)", 99999 + 50 + 2, x.next(2));
        due("servedIn(0)", 52, x.servedIn(0));
        due("servedIn(1)", 52 + 31 + 2, x.servedIn(1));
        due("all(0)", 85, x.all(0));
        due("all(1)", 81, x.all(1));
        due("all(2)", 85, x.all(2));
        due("joined()", 0, x.joined(READS, 51, 1));
        due("changes", 6, x.count(17));
        answers.same("behind them", before, Calls.everything(x));
        due("undone is the latest slip", 5, x.undo());
        due("none of writes", 0, x.count(2));
    }

    private static void next() {
        sentence("0 the batch goes on, 1 a new batch with one that is too old, 2 a new batch with one at the arm or above it, 3 a new batch from the lowest drawer on");
        DrawerSlips x = new DrawerSlips();
        x.slip(READS, 9, 1);
        due("at the arm or above it", 2, x.next(1));
        x.serve(1);
        x.slip(READS, 9, 1);
        due("from the lowest drawer on", 3, x.next(1));
        x.pass(50);
        due("too old", 1, x.next(1));
        x.slip(READS, 10, 9);
        due("the batch goes on", 0, x.next(1));

        sentence("Returns the number; BAD_VALUE if what is out of range; NONE if none waits.");
        DrawerSlips y = new DrawerSlips();
        for (int what = 0; what < 3; what++) {
            due("none waits, " + what, NONE, y.next(what));
        }
        due("none waits, 3", BAD_VALUE, y.next(3));
        due("none waits, -1", BAD_VALUE, y.next(-1));
        y.slip(READS, 0, 1);
        int[] want = {0, 2, 2};
        for (int what = 0; what < 3; what++) {
            due("one waits, " + what, want[what], y.next(what));
        }
        due("one waits, 3", BAD_VALUE, y.next(3));
        wild("next", BAD_VALUE, y::next);
        y.serve(1);
        due("none waits again", NONE, y.next(1));
    }

    private static void servedIn() {
        sentence("Tells in how many minutes a slip is served, if all are served one behind the other from now on, and nothing else comes.");
        DrawerSlips x = Calls.full();
        x.set(BATCH, 16);
        x.set(OLD_READ, 999);
        x.pass(77);
        due("the first of 30", 2, x.servedIn(0));
        due("the last of the batch of reads", 15 * 2 + 14 * 5, x.servedIn(28));
        due("the write above it", 100 + 2 + 2, x.servedIn(29));
        due("the lowest of the writes", 104 + 85 + 2, x.servedIn(1));
        due("the last of 30", 191 + 13 * (5 + 2), x.servedIn(27));
        due("all of them", x.servedIn(27), x.all(0));
        DrawerSlips y = new DrawerSlips();
        y.set(MOVE, 0);
        y.set(SERVE, 1);
        y.slip(READS, 7, 1);
        due("the least", 1, y.servedIn(0));
        y.slip(READS, 2, 3);
        due("behind a nearer one", 4, y.servedIn(0));

        sentence("Returns how many; NO_SUCH if no such slip waits.");
        DrawerSlips z = new DrawerSlips();
        due("none waits", NO_SUCH, z.servedIn(0));
        z.slip(READS, 5, 1);
        due("no such one yet", NO_SUCH, z.servedIn(1));
        wild("servedIn", NO_SUCH, z::servedIn);
        z.serve(1);
        due("served", NO_SUCH, z.servedIn(0));
        z.slip(READS, 5, 1);
        z.tear(1);
        due("torn", NO_SUCH, z.servedIn(1));
    }

    private static void all() {
        sentence("0 minutes, 1 drawers that the arm goes, 2 the longest wait of these slips");
        DrawerSlips x = new DrawerSlips();
        x.slip(READS, 5, 1);
        x.pass(900);
        x.serve(1);
        x.slip(READS, 6, 1);
        due("minutes", 2, x.all(0));
        due("drawers, none", 0, x.all(1));
        due("the longest wait of these, not of all", 2, x.all(2));
        x.slip(WRITES, 0, 1);
        x.pass(10);
        due("minutes of two", 2 + 7 + 2, x.all(0));
        due("drawers down", 7, x.all(1));
        due("the wait of the second", 10 + 2 + 7 + 2, x.all(2));
        DrawerSlips y = new DrawerSlips();
        y.slip(READS, 0, 1);
        y.pass(40);
        y.slip(WRITES, 1, 1);
        due("the wait of the first", 42, y.all(2));

        sentence("Returns the number; BAD_VALUE if what is out of range; NONE if none waits.");
        DrawerSlips z = new DrawerSlips();
        for (int what = 0; what < 3; what++) {
            due("none waits, " + what, NONE, z.all(what));
        }
        due("none waits, 3", BAD_VALUE, z.all(3));
        due("none waits, -1", BAD_VALUE, z.all(-1));
        z.slip(WRITES, 0, 1);
        due("one waits", 2, z.all(0));
        due("one waits, 3", BAD_VALUE, z.all(3));
        wild("all", BAD_VALUE, z::all);
        due("30 wait", 29 * 2 + 30 * 2, thirtyReads().all(0));
    }

    private static DrawerSlips thirtyReads() {
        DrawerSlips x = new DrawerSlips();
        x.set(OLD_READ, 999);
        for (int i = 0; i < 30; i++) {
            x.slip(READS, 3 * i, 1);
        }
        return x;
    }

    private static void joined() {
        sentence("Returns the slip with which it would be; NONE if with none; BAD_VALUE as for slip().");
        DrawerSlips x = new DrawerSlips();
        due("none waits", NONE, x.joined(READS, 50, 1));
        x.slip(READS, 40, 3);
        x.slip(READS, 42, 1);
        due("the lowest of two", 0, x.joined(READS, 43, 6));
        due("together ten with the lowest", 1, x.joined(READS, 43, 7));
        due("together ten with both", NONE, x.joined(READS, 43, 9));
        due("of the other sort", NONE, x.joined(WRITES, 43, 1));
        due("at the last one", NONE, x.joined(READS, 42, 1));
        due("one further", NONE, x.joined(READS, 44, 1));
        due("up to 99", NONE, x.joined(READS, 91, 9));
        due("up to 100", BAD_VALUE, x.joined(READS, 92, 9));
        due("sort 2", BAD_VALUE, x.joined(2, 43, 1));
        due("sort -1", BAD_VALUE, x.joined(-1, 43, 1));
        due("drawer -1", BAD_VALUE, x.joined(READS, -1, 1));
        due("drawer 0", NONE, x.joined(READS, 0, 1));
        due("drawer 99", NONE, x.joined(READS, 99, 1));
        due("drawer 100", BAD_VALUE, x.joined(READS, 100, 1));
        due("none", BAD_VALUE, x.joined(READS, 43, 0));
        due("ten", BAD_VALUE, x.joined(READS, 43, 10));
        wild("writes", BAD_VALUE, wild -> x.joined(wild, 43, 1));
        wild("drawer", BAD_VALUE, wild -> x.joined(READS, wild, 1));
        wild("many", BAD_VALUE, wild -> x.joined(READS, 43, wild));
        due("not TOO_MANY when 30 wait", NONE, Calls.full().joined(READS, 50, 1));
        due("joined when 30 wait", 28, Calls.full().joined(READS, 85, 1));
    }

    // ---- promise 15

    private static void put() {
        putInOrder();
        putAboveAZero();
        putOneToEight();
        putBadCharacters();
        putTooMany();
    }

    private static void putInOrder() {
        sentence("its lowest 8 bits are the last character, the next 8 bits the one before, and so on");
        DrawerSlips x = new DrawerSlips();
        due("t12", 3, x.put(('t' << 16) | ('1' << 8) | '2'));
        due("carried out", 1, x.carryOut());
        due("12 minutes", 12, x.count(0));
        x.put(Calls.packed("r99+0;t3"));
        x.put(Calls.packed("4;t56;w7"));
        due("eight and eight", 4, x.carryOut());
        due("34 and 56 minutes", 12 + 34 + 56, x.count(0));
        due("the last order", 7, x.of(1, 1));
    }

    private static void putAboveAZero() {
        sentence("8 bits that are 0 mean that there are no more characters, and everything above them has to be 0, too");
        DrawerSlips x = new DrawerSlips();
        for (int characters = 1; characters <= 7; characters++) {
            long text = Calls.packed("t1;t2;t".substring(0, characters));
            for (int bit = 8 * characters + 8; bit < 64; bit++) {
                due(characters + " characters, and the bit " + bit, BAD_VALUE, x.put(text | 1L << bit));
            }
        }
        due("the pad", 0, x.count(16));
        due("a character above a gap", BAD_VALUE, x.put(0x72000035L));
        due("a zero that is the lowest", BAD_VALUE, x.put(0x7200L));
        due("nothing above", 1, x.put(0x72L));
    }

    private static void putOneToEight() {
        sentence("`characters`: 1 to 8 characters");
        DrawerSlips x = new DrawerSlips();
        int length = 0;
        for (int characters = 1; characters <= 8; characters++) {
            length += characters;
            due(characters + " characters", length, x.put(Calls.packed("t1;t2;t3".substring(0, characters))));
        }
        due("none", BAD_VALUE, x.put(0));
    }

    private static void putBadCharacters() {
        sentence("Returns the length of the pad then; BAD_VALUE if there is no character, a code is not 33 to 126, or a bit above 8 bits that are 0 is not 0");
        DrawerSlips x = new DrawerSlips();
        due("none", BAD_VALUE, x.put(0L));
        for (int place = 0; place < 8; place++) {
            long others = Calls.packed("tttttttt".substring(0, place));
            for (int code = 0; code < 256; code++) {
                boolean isGood = code >= 33 && code <= 126;
                long characters = others | (long) code << (8 * place);
                boolean isShorter = code == 0 && place > 0;
                if (code != 0 && !isGood) {
                    due("code " + code + " in front of " + place, BAD_VALUE, new DrawerSlips().put(characters));
                } else if (isGood || isShorter) {
                    int length = isShorter ? place : place + 1;
                    due("code " + code + " in front of " + place, length, new DrawerSlips().put(characters));
                }
            }
        }
        due("-1", BAD_VALUE, x.put(-1));
        due("the least number", BAD_VALUE, x.put(Long.MIN_VALUE));
        due("the greatest number", BAD_VALUE, x.put(Long.MAX_VALUE));
        due("a blank behind good ones", BAD_VALUE, x.put(Calls.packed("t1;t2; ")));
        due("the pad", 0, x.count(16));
    }

    private static void putTooMany() {
        sentence("TOO_MANY if the pad would be longer than 80.");
        for (int more = 1; more <= 8; more++) {
            String text = "tttttttt".substring(0, more);
            DrawerSlips x = Calls.withText("t".repeat(81 - more));
            due("81 by " + more, TOO_MANY, x.put(Calls.packed(text)));
            due("it stays", 81 - more, x.count(16));
            DrawerSlips y = Calls.withText("t".repeat(80 - more));
            due("80 by " + more, 80, y.put(Calls.packed(text)));
            due("one more", TOO_MANY, y.put('t'));
            due("a blank more", BAD_VALUE, y.put(' '));
            due("nothing more", BAD_VALUE, y.put(0));
            y.wipe();
            due("when it is empty again", more, y.put(Calls.packed(text)));
        }
    }

    // ---- promises 16 and 17

    private static void wipe() {
        sentence("Empties the pad, and returns the length that it had.");
        DrawerSlips x = new DrawerSlips();
        due("an empty one", 0, x.wipe());
        x.put('r');
        due("of one character", 1, x.wipe());
        due("empty then", 0, x.count(16));
        due("empty already", 0, x.wipe());
        DrawerSlips y = Calls.withText("t1;".repeat(26) + "t1");
        due("a full one", 80, y.wipe());
        due("none of it is left", 0, y.fault());
        due("nor carried out", BAD_TEXT, y.carryOut());
        y.put('t');
        due("a part of it is not, either", 1, y.fault());
        due("no change", 0, y.count(17));
    }

    private static void fault() {
        sentence("Returns the fault of the pad, NONE if there is none.");
        due("an empty pad", 0, new DrawerSlips().fault());
        DrawerSlips x = Calls.withText("r99+9;s0;t0;w99");
        due("orders that would be errors", NONE, x.fault());
        due("the same again", NONE, x.fault());
        due("the pad stays", 15, x.count(16));
        x.put(Calls.packed("+12"));
        due("behind one more", 17, x.fault());
        due("no change", 0, x.count(17));
        due("nothing is carried out", 0, x.count(0));
    }

    // ---- promise 18

    private static void carryOut() {
        carryOutUpToAnError();
        carryOutIsOneChange();
        carryOutOfAFault();
    }

    private static void carryOutUpToAnError() {
        sentence("Carries the orders of the pad out, one after the other, up to the first one that returns an error, and empties the pad.");
        String[] texts = {"t1;t0;t5", "t1;s0;t5", "t1;s31;t5", "t1;s1;t5", "t1;r99+1;t5", "t1;w5+9;t5"};
        for (String text : texts) {
            DrawerSlips x = new DrawerSlips();
            due(text, 1, Calls.carriedOut(x, text));
            due("now behind " + text, 1, x.count(0));
            due("the pad behind " + text, 0, x.count(16));
        }
        DrawerSlips full = Calls.full();
        due("too many wait", 1, Calls.carriedOut(full, "r85;r95;t5"));
        due("the first was joined", 85, full.of(28, 2));
        due("now when too many wait", 0, full.count(0));
        DrawerSlips late = Calls.atMinute(99990);
        due("too late to pass", 1, Calls.carriedOut(late, "t5;t5;t4"));
        due("too late to serve", 1, Calls.carriedOut(late, "r3;s1;t4"));
        due("now when it is too late", 99995, late.count(0));
        DrawerSlips x = new DrawerSlips();
        due("all of them", 4, Calls.carriedOut(x, "r0;w99;t99;s30"));
        due("one", 1, Calls.carriedOut(x, "t99"));
        due("27 of them", 27, Calls.carriedOut(x, "t1;".repeat(26) + "t1"));
        due("an error at the end", 26, Calls.carriedOut(x, "t1;".repeat(26) + "t0"));
        due("now", 99 + 2 + 98 + 2 + 99 + 27 + 26, x.count(0));
    }

    private static void carryOutIsOneChange() {
        sentence("This is a change (one, with all of them; also if none is carried out).");
        DrawerSlips x = new DrawerSlips();
        due("four orders", 4, Calls.carriedOut(x, "r5;w9;t7;s1"));
        due("one change", 1, x.count(17));
        due("none is carried out", 0, Calls.carriedOut(x, "t0"));
        due("another change", 2, x.count(17));
        due("an error behind three", 3, Calls.carriedOut(x, "t1;t2;t3;t0;t4"));
        due("a third one", 3, x.count(17));
        due("undone with all of them", 2, x.undo());
        due("now behind the first", 14, x.count(0));
        due("undone, as none was carried out", 1, x.undo());
        due("now as it was", 14, x.count(0));
        due("undone with all four", 0, x.undo());
        answers.same("as at first", Calls.everything(new DrawerSlips()), Calls.everything(x));
    }

    private static void carryOutOfAFault() {
        sentence("Returns how many orders were carried out; BAD_TEXT if the pad has a fault (then it stays).");
        DrawerSlips x = new DrawerSlips();
        due("an empty pad", BAD_TEXT, x.carryOut());
        Calls.append(x, "t1;t2;");
        due("a text that ends too early", BAD_TEXT, x.carryOut());
        due("it stays", 6, x.count(16));
        due("nothing is carried out", 0, x.count(0));
        due("no change", 0, x.count(17));
        x.put('x');
        due("a character that cannot stand", BAD_TEXT, x.carryOut());
        due("it stays, too", 7, x.count(16));
        due("the fault stays", 6, x.fault());
        due("an error of an order is no fault", 0, Calls.carriedOut(new DrawerSlips(), "t0;t1"));
    }

    // ---- promise 19

    private static void undo() {
        undoBringsAllBack();
        undoLeavesPadAndSlots();
        undoKeepsSixStates();
        undoEachChange();
        undoDropsTheOldest();
        undoNoOrderByItself();
        undoNone();
    }

    private static void undoBringsAllBack() {
        sentence("Undoes the latest change: everything except the pad, the slots and the history is as it was before it.");
        undone("set", x -> x.set(STARVE, 9));
        undone("slip", x -> x.slip(WRITES, 20, 3));
        undone("slip, joined", x -> x.slip(READS, 51, 8));
        undone("tear", x -> x.tear(3));
        undone("serve", x -> x.serve(1));
        undone("serve all", x -> x.serve(30));
        undone("pass", x -> x.pass(999));
        undone("carryOut", x -> Calls.carriedOut(x, "r1+8;s9;t99;w2;s30;w5"));
        undone("restore", x -> x.restore(1));
    }

    /** Settings, slips of both sorts, a batch of reads that went ahead, and a log; saved in the slot 1 at first. */
    private static DrawerSlips used() {
        DrawerSlips x = new DrawerSlips();
        x.save(1);
        x.set(BATCH, 3);
        x.slip(READS, 10, 1);
        x.slip(WRITES, 20, 1);
        x.pass(30);
        x.slip(READS, 50, 1);
        x.slip(WRITES, 5, 2);
        x.slip(READS, 30, 1);
        x.serve(2);
        return x;
    }

    private static void undone(String name, Consumer<DrawerSlips> change) {
        DrawerSlips x = used();
        DrawerSlips twin = used();
        change.accept(x);
        due("undo() of " + name, 5, x.undo());
        answers.same("behind undo() of " + name, Calls.everything(twin), Calls.everything(x));
        due("the next number behind undo() of " + name, twin.slip(READS, 90, 1), x.slip(READS, 90, 1));
        due("undo() of that behind " + name, 5, x.undo());
        due("undo() of the change before " + name, 4, x.undo());
        due("it was serve(2)", 5, x.count(1) + x.count(2));
    }

    private static void undoLeavesPadAndSlots() {
        sentence("everything except the pad, the slots and the history is as it was before it");
        DrawerSlips x = new DrawerSlips();
        x.pass(1);
        Calls.append(x, "t7");
        x.save(0);
        x.undo();
        due("the pad", 2, x.count(16));
        due("its orders", 1, x.carryOut());
        due("now", 7, x.count(0));
        x.undo();
        due("it stays empty", 0, x.count(16));
        due("slot 0", 0, x.restore(0));
        due("now of it", 1, x.count(0));
        due("slot 1", NOT_POSSIBLE, x.restore(1));
        x.undo();
        due("slot 0 again", 0, x.restore(0));
        due("now of it again", 1, x.count(0));
    }

    private static void undoKeepsSixStates() {
        sentence("A history of at most 6 states is kept");
        for (int changes = 0; changes <= 15; changes++) {
            DrawerSlips x = new DrawerSlips();
            for (int i = 0; i < changes; i++) {
                x.pass(1);
            }
            int kept = Math.min(changes, 6);
            due("states behind " + changes, kept, x.count(17));
            for (int i = 1; i <= kept; i++) {
                due("undo() " + i + " of " + changes, kept - i, x.undo());
                due("now", changes - i, x.count(0));
            }
            due("one more of " + changes, NOT_POSSIBLE, x.undo());
            due("now stays", changes - kept, x.count(0));
        }
    }

    private static void undoEachChange() {
        sentence("each method that is a change, and returns no error, records the state before it (also if nothing is different then)");
        recorded("set to the same", 1, x -> x.set(MOVE, 1));
        recorded("slip", 1, x -> x.slip(READS, 90, 1));
        recorded("slip, joined", 1, x -> x.slip(READS, 51, 1));
        recorded("tear", 1, x -> x.tear(1));
        recorded("serve", 1, x -> x.serve(3));
        recorded("pass", 1, x -> x.pass(1));
        recorded("carryOut of none", 1, x -> Calls.carriedOut(x, "t0"));
        recorded("restore", 1, x -> x.restore(1));
        recorded("an error of set", 0, x -> x.set(MOVE, 10));
        recorded("an error of slip", 0, x -> x.slip(READS, 100, 1));
        recorded("an error of tear", 0, x -> x.tear(99));
        recorded("an error of serve", 0, x -> x.serve(31));
        recorded("an error of pass", 0, x -> x.pass(0));
        recorded("an error of carryOut", 0, x -> Calls.carriedOut(x, "x"));
        recorded("an error of restore", 0, x -> x.restore(0));
        recorded("put", 0, x -> x.put('t'));
        recorded("wipe", 0, DrawerSlips::wipe);
        recorded("fault", 0, DrawerSlips::fault);
        recorded("save", 0, x -> x.save(0));
        recorded("what there is", 0, Calls::everything);
    }

    private static void recorded(String name, int states, Consumer<DrawerSlips> call) {
        DrawerSlips x = used();
        x.undo();
        x.undo();
        due("states at first", 4, x.count(17));
        call.accept(x);
        due("states behind " + name, 4 + states, x.count(17));
        due("undo() behind " + name, 3 + states, x.undo());
    }

    private static void undoDropsTheOldest() {
        sentence("when one more is recorded, the oldest one is dropped");
        DrawerSlips x = new DrawerSlips();
        for (int i = 0; i < 7; i++) {
            x.slip(READS, 9 * i, 1);
        }
        for (int i = 0; i < 6; i++) {
            x.undo();
        }
        due("the state ahead of the first slip is gone", 0, x.waiting(READS, 0));
        due("no more", NOT_POSSIBLE, x.undo());
        for (int i = 0; i < 20; i++) {
            x.pass(3);
            x.pass(5);
            x.undo();
        }
        due("one is left of each two", 60, x.count(0));
        due("six are kept, and one is undone", 5, x.count(17));
        for (int i = 4; i >= 0; i--) {
            due("undo()", i, x.undo());
        }
        due("five of them are undone", 45, x.count(0));
    }

    private static void undoNoOrderByItself() {
        sentence("An order of a text records nothing by itself.");
        DrawerSlips x = new DrawerSlips();
        x.pass(1);
        due("nine orders", 9, Calls.carriedOut(x, "t1;t1;t1;t1;r5;w6;s1;s1;t1"));
        due("two changes", 2, x.count(17));
        due("all nine at once", 1, x.undo());
        due("now", 1, x.count(0));
        due("the one before", 0, x.undo());
        due("now at first", 0, x.count(0));
    }

    private static void undoNone() {
        sentence("Returns how many changes can be undone then; NOT_POSSIBLE if there is none.");
        DrawerSlips x = new DrawerSlips();
        due("none at first", NOT_POSSIBLE, x.undo());
        x.pass(1);
        due("none is left", 0, x.undo());
        due("none then", NOT_POSSIBLE, x.undo());
        due("still none", NOT_POSSIBLE, x.undo());
        x.pass(5);
        x.pass(5);
        due("one is left", 1, x.undo());
        due("undo() is no change itself", 0, x.undo());
        due("now", 0, x.count(0));
    }

    // ---- promises 20 and 21

    private static void save() {
        slots();
        sentence("Saves everything except the pad, the history and the slots in a slot, and overwrites what was saved there.");
        DrawerSlips x = used();
        DrawerSlips twin = used();
        x.save(0);
        due("no change", 6, x.count(17));
        x.serve(30);
        x.set(SERVE, 20);
        x.slip(WRITES, 99, 1);
        Calls.append(x, "t5");
        x.restore(0);
        answers.same("everything", Calls.everything(twin), Calls.everything(x));
        due("not the pad", 2, x.count(16));
        due("not the history", 6, x.count(17));
        due("the next number", twin.slip(READS, 99, 1), x.slip(READS, 99, 1));
        x.save(0);
        x.serve(30);
        due("what was saved last", 4, x.restore(0));
        due("the other slot is as it was", 0, x.restore(1));
        due("at its minute", 0, x.count(0));

        sentence("Returns how many slips wait; BAD_VALUE if there is no such slot.");
        DrawerSlips y = new DrawerSlips();
        due("none waits", 0, y.save(0));
        due("30 wait", 30, Calls.full().save(1));
        due("slot 2", BAD_VALUE, y.save(2));
        due("slot -1", BAD_VALUE, y.save(-1));
        wild("save", BAD_VALUE, y::save);
        due("nothing in the slot 1", NOT_POSSIBLE, y.restore(1));
    }

    private static void slots() {
        sentence("`slot`: 0 or 1");
        DrawerSlips x = new DrawerSlips();
        for (int slot = 0; slot < 2; slot++) {
            x.pass(10);
            due("save in " + slot, 0, x.save(slot));
        }
        due("save in -1", BAD_VALUE, x.save(-1));
        due("save in 2", BAD_VALUE, x.save(2));
        due("restore of -1", BAD_VALUE, x.restore(-1));
        due("restore of 2", BAD_VALUE, x.restore(2));
        for (int slot = 0; slot < 2; slot++) {
            due("restore of " + slot, 0, x.restore(slot));
            due("now of " + slot, 10 + 10 * slot, x.count(0));
        }
    }

    private static void restore() {
        sentence("Restores what was saved last in a slot, which keeps it. This is a change.");
        DrawerSlips x = new DrawerSlips();
        x.slip(READS, 5, 1);
        x.save(1);
        x.pass(7);
        x.save(1);
        for (int i = 0; i < 3; i++) {
            x.slip(WRITES, 10 * i, 1);
            x.pass(100);
            due("one waits then", 1, x.restore(1));
            due("the minute that was saved last", 7, x.count(0));
        }
        due("a change", 6, x.count(17));
        due("undone", 5, x.undo());
        due("two waited before it", 2, x.count(1) + x.count(2));
        due("now before it", 107, x.count(0));

        sentence("Returns how many slips wait then; BAD_VALUE if there is no such slot; NOT_POSSIBLE if nothing was saved in it.");
        DrawerSlips y = Calls.full();
        due("nothing in the slot 0", NOT_POSSIBLE, y.restore(0));
        due("nothing in the slot 1", NOT_POSSIBLE, y.restore(1));
        due("slot 2", BAD_VALUE, y.restore(2));
        due("slot -1", BAD_VALUE, y.restore(-1));
        wild("restore", BAD_VALUE, y::restore);
        y.save(0);
        due("still nothing in the slot 1", NOT_POSSIBLE, y.restore(1));
        y.serve(30);
        due("30 wait then", 30, y.restore(0));
        DrawerSlips z = new DrawerSlips();
        z.save(1);
        z.slip(READS, 5, 1);
        due("none waits then", 0, z.restore(1));
        due("nothing in the other slot", NOT_POSSIBLE, z.restore(0));
    }
}
