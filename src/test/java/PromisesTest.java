import java.util.Map;

/** Each promise of the document: ordinary inputs, the edges that it names, and wrong inputs. */
public final class PromisesTest {
    private static final int NO_SUCH = -1, BAD_VALUE = -2, BAD_TEXT = -3, TOO_MANY = -4, NOT_POSSIBLE = -5, NONE = -6;
    private static final int OLD_READ = 0, OLD_WRITE = 1, BATCH = 2, STARVE = 3, MOVE = 4, SERVE = 5;
    private static final int READS = 0, WRITES = 1;
    private static final int[] LEAST = {1, 1, 1, 1, 0, 1};
    private static final int[] MOST = {999, 999, 16, 9, 9, 20};
    private static final int[] FIRST = {50, 200, 4, 2, 1, 2};

    private static final Answers answers = new Answers();

    public static void main(String[] args) {
        newObject();
        set();
        slip();
        slipIsJoined();
        slipsAreTooMany();
        tear();
        serve();
        serveKeepsTheBoundOfMinutes();
        batchGoesOn();
        newBatchTakesTheOldest();
        newBatchTakesTheNearest();
        readsGoAheadOfWrites();
        readsWithoutWritesCountNotAsAhead();
        pass();
        of();
        waiting();
        log();
        count();
        next();
        servedIn();
        all();
        whatIfIgnoresTheBoundOfMinutes();
        whatIfChangesNothing();
        joined();
        put();
        wipe();
        faultOfGoodTexts();
        faultOfWrongTexts();
        carryOut();
        carryOutStopsAtAnError();
        undo();
        undoKeepsSixStates();
        undoLeavesPadAndSlots();
        save();
        restore();
        answers.end();
    }

    private static void due(String call, long want, long got) {
        answers.due(call, want, got);
    }

    // ---- promise 1

    private static void newObject() {
        answers.topic("1 a new object");
        DrawerSlips x = new DrawerSlips();
        for (int what = 0; what < 10; what++) {
            due("count(" + what + ")", 0, x.count(what));
        }
        for (int setting = 0; setting < 6; setting++) {
            due("count(" + (10 + setting) + ")", FIRST[setting], x.count(10 + setting));
        }
        due("count(16)", 0, x.count(16));
        due("count(17)", 0, x.count(17));
        due("of(0, 0)", NO_SUCH, x.of(0, 0));
        due("waiting(0, 0)", NO_SUCH, x.waiting(READS, 0));
        due("waiting(1, 0)", NO_SUCH, x.waiting(WRITES, 0));
        due("log(0, 0)", NO_SUCH, x.log(0, 0));
        due("next(0)", NONE, x.next(0));
        due("fault()", 0, x.fault());
        due("undo()", NOT_POSSIBLE, x.undo());
        due("restore(0)", NOT_POSSIBLE, x.restore(0));
        due("restore(1)", NOT_POSSIBLE, x.restore(1));
        DrawerSlips y = new DrawerSlips();
        x.slip(READS, 5, 1);
        due("another object's count(1)", 0, y.count(1));
    }

    // ---- promise 2

    private static void set() {
        answers.topic("2 set");
        for (int setting = 0; setting < 6; setting++) {
            DrawerSlips x = new DrawerSlips();
            due("below the range of " + setting, BAD_VALUE, x.set(setting, LEAST[setting] - 1));
            due("above the range of " + setting, BAD_VALUE, x.set(setting, MOST[setting] + 1));
            due("an error records nothing", 0, x.count(17));
            due("the least of " + setting, FIRST[setting], x.set(setting, LEAST[setting]));
            due("the most of " + setting, LEAST[setting], x.set(setting, MOST[setting]));
            due("it stays", MOST[setting], x.count(10 + setting));
            due("the same once more", MOST[setting], x.set(setting, MOST[setting]));
            due("each is a change", 3, x.count(17));
            for (int wild : Calls.WILD) {
                due("set(" + setting + ", " + wild + ")", BAD_VALUE, x.set(setting, wild));
            }
            for (int other = 0; other < 6; other++) {
                due("setting " + other, other == setting ? MOST[other] : FIRST[other], x.count(10 + other));
            }
        }
        DrawerSlips x = new DrawerSlips();
        due("set(6, 1)", BAD_VALUE, x.set(6, 1));
        due("set(6, 0)", BAD_VALUE, x.set(6, 0));
        for (int wild : Calls.WILD) {
            due("set(" + wild + ", 1)", BAD_VALUE, x.set(wild, 1));
        }
    }

    // ---- promise 3

    private static void slip() {
        answers.topic("3 slip");
        DrawerSlips x = new DrawerSlips();
        due("the first", 0, x.slip(READS, 0, 1));
        due("the second", 1, x.slip(WRITES, 99, 1));
        due("nine drawers", 2, x.slip(READS, 91, 9));
        due("the same again", 3, x.slip(READS, 91, 9));
        due("a change each", 4, x.count(17));
        due("one too high", BAD_VALUE, x.slip(READS, 92, 9));
        due("two at the last", BAD_VALUE, x.slip(READS, 99, 2));
        due("drawer 100", BAD_VALUE, x.slip(READS, 100, 1));
        due("drawer -1", BAD_VALUE, x.slip(READS, -1, 1));
        due("no drawer", BAD_VALUE, x.slip(READS, 5, 0));
        due("ten drawers", BAD_VALUE, x.slip(READS, 5, 10));
        due("sort 2", BAD_VALUE, x.slip(2, 5, 1));
        due("sort -1", BAD_VALUE, x.slip(-1, 5, 1));
        for (int wild : Calls.WILD) {
            due("sort " + wild, BAD_VALUE, x.slip(wild, 5, 1));
            due("drawer " + wild, BAD_VALUE, x.slip(READS, wild, 1));
            due("many " + wild, BAD_VALUE, x.slip(READS, 5, wild));
        }
        due("errors record nothing", 4, x.count(17));
        due("slips that read", 3, x.count(1));
        due("slips that write", 1, x.count(2));
        x.tear(3);
        due("a number is not given again", 4, x.slip(WRITES, 50, 1));
    }

    private static void slipIsJoined() {
        answers.topic("3 slip is joined");
        DrawerSlips x = new DrawerSlips();
        x.slip(READS, 10, 3);
        x.pass(7);
        due("not of its sort", 1, x.slip(WRITES, 13, 1));
        due("not right behind", 2, x.slip(READS, 14, 1));
        due("ahead of it", 3, x.slip(READS, 9, 1));
        due("together ten", 4, x.slip(READS, 13, 7));
        due("together nine", 0, x.slip(READS, 13, 6));
        due("first drawer", 10, x.of(0, 1));
        due("last drawer", 18, x.of(0, 2));
        due("its age stays", 7, x.of(0, 3));
        due("joins", 1, x.of(0, 5));
        due("slips that read", 4, x.count(1));
        due("no number is taken", 5, x.slip(READS, 70, 1));
        due("full up to nine", 6, x.slip(READS, 19, 1));

        DrawerSlips y = new DrawerSlips();
        y.slip(WRITES, 40, 2);
        y.slip(WRITES, 41, 1);
        due("the lowest of two", 0, y.slip(WRITES, 42, 1));
        due("then the other one", 1, y.slip(WRITES, 42, 1));
        due("joins of 1", 1, y.of(1, 5));
        y.serve(30);
        due("a slip that is gone joins none", 2, y.slip(WRITES, 43, 1));

        DrawerSlips z = new DrawerSlips();
        z.slip(READS, 41, 1);
        z.slip(READS, 40, 2);
        z.tear(0);
        z.slip(READS, 41, 1);
        due("lowest by number, not by place", 1, z.slip(READS, 42, 1));
    }

    private static void slipsAreTooMany() {
        answers.topic("3 slips are too many");
        DrawerSlips x = new DrawerSlips();
        for (int i = 0; i < 30; i++) {
            due("slip " + i, i, x.slip(i % 2, 3 * i, 1));
        }
        due("one more", TOO_MANY, x.slip(READS, 5, 1));
        due("a wrong one more", BAD_VALUE, x.slip(READS, 5, 10));
        due("one that is joined", 2, x.slip(READS, 7, 2));
        x.tear(29);
        due("one after another left", 30, x.slip(READS, 95, 1));
        due("again too many", TOO_MANY, x.slip(WRITES, 95, 1));
        due("all wait", 30, x.count(1) + x.count(2));
        due("serve them all", 30, x.serve(30));
        due("room again", 31, x.slip(WRITES, 95, 1));
    }

    // ---- promise 4

    private static void tear() {
        answers.topic("4 tear");
        DrawerSlips x = new DrawerSlips();
        x.slip(READS, 10, 1);
        x.pass(3);
        x.slip(WRITES, 20, 1);
        x.pass(4);
        due("none such", NO_SUCH, x.tear(2));
        for (int wild : Calls.WILD) {
            due("tear(" + wild + ")", NO_SUCH, x.tear(wild));
        }
        due("errors record nothing", 4, x.count(17));
        due("its age", 7, x.tear(0));
        due("torn already", NO_SUCH, x.tear(0));
        due("reads", 0, x.count(1));
        due("writes", 1, x.count(2));
        due("a change", 5, x.count(17));
        due("the other's age", 4, x.tear(1));
        due("served none", 0, x.count(4));
        due("no log", NO_SUCH, x.log(0, 0));
        x.slip(READS, 30, 1);
        x.serve(1);
        due("served already", NO_SUCH, x.tear(2));
    }

    // ---- promise 5

    private static void serve() {
        answers.topic("5 serve");
        DrawerSlips x = new DrawerSlips();
        due("none waits", NOT_POSSIBLE, x.serve(1));
        due("none waits, and too few", BAD_VALUE, x.serve(0));
        due("31", BAD_VALUE, x.serve(31));
        for (int wild : Calls.WILD) {
            due("serve(" + wild + ")", BAD_VALUE, x.serve(wild));
        }
        due("errors record nothing", 0, x.count(17));
        x.set(MOVE, 3);
        x.set(SERVE, 5);
        x.slip(READS, 10, 2);
        x.slip(READS, 20, 1);
        x.slip(READS, 4, 1);
        due("two", 2, x.serve(2));
        due("one change", 6, x.count(17));
        due("minutes", 4 * 3 + 5 + 5 * 3 + 10, x.count(0));
        due("arm behind the last one", 12, x.count(3));
        due("drawers gone", 9, x.count(6));
        due("wait", 42, x.log(0, 1));
        due("fewer", 1, x.serve(30));
        due("minutes then", 42 + 8 * 3 + 5, x.count(0));
        due("none waits now", NOT_POSSIBLE, x.serve(30));
        x.slip(WRITES, 99, 1);
        x.serve(1);
        due("at most at 99", 99, x.count(3));
        x.slip(WRITES, 98, 1);
        x.serve(1);
        due("at 99 behind 98", 99, x.count(3));
        due("down counts, too", 9 + 8 + 78 + 1, x.count(6));
        x.set(MOVE, 0);
        int before = x.count(0);
        x.slip(READS, 0, 1);
        x.serve(1);
        due("the way may take no minutes", before + 5, x.count(0));
        due("but it is gone", 96 + 99, x.count(6));
    }

    private static void serveKeepsTheBoundOfMinutes() {
        answers.topic("5 serve keeps the bound of minutes");
        DrawerSlips x = Calls.atMinute(99990);
        x.slip(READS, 5, 2);
        x.slip(READS, 8, 1);
        due("two end at 100002", NOT_POSSIBLE, x.serve(2));
        due("nothing is changed", 99990, x.count(0));
        due("none is served", 0, x.count(4));
        due("both wait", 2, x.count(1));
        due("the arm", 0, x.count(3));
        due("one ends at 99999", 1, x.serve(1));
        due("now", 99999, x.count(0));
        due("the other one cannot be", NOT_POSSIBLE, x.serve(1));
        due("it can be joined yet", 1, x.slip(READS, 9, 1));
        DrawerSlips y = Calls.atMinute(99990);
        y.slip(READS, 6, 2);
        due("one ends at 100000", NOT_POSSIBLE, y.serve(1));
        due("too many and too late", BAD_VALUE, y.serve(31));
    }

    private static void batchGoesOn() {
        answers.topic("5 a batch goes on");
        DrawerSlips x = new DrawerSlips();
        x.set(BATCH, 3);
        x.slip(READS, 10, 1);
        x.serve(1);
        x.slip(WRITES, 11, 1);
        x.slip(READS, 11, 1);
        x.slip(READS, 10, 1);
        due("at the arm", 2, x.next(0));
        due("goes on", 0, x.next(1));
        x.serve(1);
        due("none at the arm or above", 3, x.next(0));
        due("a new batch", 3, x.next(1));
        x.slip(READS, 30, 1);
        x.slip(READS, 20, 2);
        x.slip(READS, 20, 1);
        due("the least, then the lowest", 5, x.next(0));
        x.set(OLD_READ, 1);
        x.pass(5);
        due("goes on although one is too old", 0, x.next(1));
        x.serve(1);
        due("the batch is full", 3, x.count(8));
        due("a new one", 1, x.next(1));
        x.set(BATCH, 4);
        due("not full with a larger bound", 0, x.next(1));
        x.set(BATCH, 1);
        due("full with a smaller one", 1, x.next(1));
        due("batches", 1, x.count(7));
        x.serve(1);
        due("batches then", 2, x.count(7));
        due("slips of the latest one", 1, x.count(8));

        DrawerSlips y = new DrawerSlips();
        y.slip(WRITES, 10, 1);
        y.serve(1);
        y.slip(READS, 12, 1);
        y.slip(WRITES, 20, 1);
        due("writes go on, too", 2, y.next(0));
        due("reads wait for it", 0, y.next(1));
        y.tear(2);
        due("or begin anew", 1, y.next(0));
        due("with one above", 2, y.next(1));
    }

    private static void newBatchTakesTheOldest() {
        answers.topic("5 a new batch takes the oldest");
        DrawerSlips x = new DrawerSlips();
        x.slip(READS, 50, 1);
        x.slip(READS, 10, 1);
        x.pass(49);
        due("age 49 is not too old", 1, x.next(0));
        due("at the arm or above", 2, x.next(1));
        due("of(0, 4)", 0, x.of(0, 4));
        x.pass(1);
        due("age 50 is too old", 0, x.next(0));
        due("too old", 1, x.next(1));
        due("of(0, 4) then", 1, x.of(0, 4));
        x.tear(0);
        due("of the others the lowest", 1, x.next(0));

        DrawerSlips y = new DrawerSlips();
        y.set(OLD_READ, 1);
        y.slip(WRITES, 70, 1);
        y.slip(WRITES, 5, 1);
        y.pass(199);
        due("writes: age 199", 1, y.next(0));
        y.pass(1);
        due("writes: age 200", 0, y.next(0));
        y.slip(READS, 3, 1);
        due("reads that are young go ahead of writes that are too old", 2, y.next(0));
        due("as the nearest one", 2, y.next(1));

        DrawerSlips z = new DrawerSlips();
        z.set(OLD_WRITE, 1);
        z.slip(READS, 60, 1);
        z.slip(READS, 20, 1);
        z.pass(20);
        due("reads go by their own age", 1, z.next(0));
    }

    private static void newBatchTakesTheNearest() {
        answers.topic("5 a new batch takes the nearest");
        DrawerSlips x = new DrawerSlips();
        x.slip(WRITES, 49, 1);
        x.serve(1);
        x.slip(READS, 49, 2);
        x.slip(READS, 50, 3);
        x.slip(READS, 50, 1);
        x.slip(READS, 30, 1);
        due("at the arm, the lowest", 2, x.next(0));
        due("why", 2, x.next(1));
        x.tear(2);
        x.tear(3);
        due("else the least of all", 4, x.next(0));
        due("why then", 3, x.next(1));
        x.slip(READS, 30, 5);
        due("and the lowest of these", 4, x.next(0));
        x.tear(4);
        due("now the other", 5, x.next(0));
    }

    private static void readsGoAheadOfWrites() {
        answers.topic("5 reads go ahead of writes");
        DrawerSlips x = new DrawerSlips();
        x.set(BATCH, 1);
        x.slip(WRITES, 50, 1);
        x.slip(WRITES, 53, 1);
        for (int i = 0; i < 5; i++) {
            x.slip(READS, 2 * i, 1);
        }
        due("reads first", 2, x.next(0));
        x.serve(1);
        due("one ahead", 1, x.count(9));
        due("reads again", 3, x.next(0));
        x.serve(1);
        due("two ahead", 2, x.count(9));
        due("writes now", 0, x.next(0));
        x.set(STARVE, 3);
        due("or not", 4, x.next(0));
        x.serve(1);
        due("three ahead", 3, x.count(9));
        x.set(STARVE, 1);
        due("more than STARVE is enough", 0, x.next(0));
        x.serve(1);
        due("writes set it to 0", 0, x.count(9));
        due("then reads", 5, x.next(0));
        x.serve(1);
        due("one ahead again", 1, x.count(9));
        due("writes again", 1, x.next(0));

        DrawerSlips y = new DrawerSlips();
        y.slip(WRITES, 90, 1);
        y.slip(READS, 1, 1);
        y.slip(READS, 3, 1);
        y.serve(2);
        due("a batch of two counts once", 1, y.count(9));
        due("one batch", 1, y.count(7));
    }

    private static void readsWithoutWritesCountNotAsAhead() {
        answers.topic("5 reads without writes count not as ahead");
        DrawerSlips x = new DrawerSlips();
        x.set(BATCH, 1);
        x.slip(READS, 1, 1);
        x.serve(1);
        due("no write waited", 0, x.count(9));
        x.slip(WRITES, 90, 1);
        x.slip(READS, 3, 1);
        x.serve(1);
        due("one waited", 1, x.count(9));
        x.tear(1);
        x.slip(READS, 5, 1);
        x.serve(1);
        due("it stays when none waits", 1, x.count(9));
        x.slip(WRITES, 90, 1);
        x.slip(READS, 7, 1);
        x.serve(1);
        due("and goes on from there", 2, x.count(9));
        x.slip(READS, 9, 1);
        due("writes next", 4, x.next(0));
    }

    // ---- promise 6

    private static void pass() {
        answers.topic("6 pass");
        DrawerSlips x = new DrawerSlips();
        due("0", BAD_VALUE, x.pass(0));
        due("1000", BAD_VALUE, x.pass(1000));
        for (int wild : Calls.WILD) {
            due("pass(" + wild + ")", BAD_VALUE, x.pass(wild));
        }
        due("errors record nothing", 0, x.count(17));
        due("1", 1, x.pass(1));
        due("999", 1000, x.pass(999));
        due("changes", 2, x.count(17));
        due("the arm stands", 0, x.count(3));
        DrawerSlips y = Calls.atMinute(99990);
        due("above", NOT_POSSIBLE, y.pass(10));
        due("above, and too many", BAD_VALUE, y.pass(1000));
        due("up to it", 99999, y.pass(9));
        due("one more", NOT_POSSIBLE, y.pass(1));
        due("now", 99999, y.count(0));
    }

    // ---- promise 7

    private static void of() {
        answers.topic("7 of");
        DrawerSlips x = new DrawerSlips();
        x.slip(READS, 10, 3);
        x.slip(WRITES, 20, 1);
        x.pass(49);
        x.slip(READS, 13, 2);
        x.slip(READS, 15, 1);
        int[] first = {0, 10, 15, 49, 0, 2};
        int[] second = {1, 20, 20, 49, 0, 0};
        for (int what = 0; what < 6; what++) {
            due("of(0, " + what + ")", first[what], x.of(0, what));
            due("of(1, " + what + ")", second[what], x.of(1, what));
        }
        due("of(0, 6)", BAD_VALUE, x.of(0, 6));
        due("of(2, 6)", NO_SUCH, x.of(2, 6));
        for (int wild : Calls.WILD) {
            due("of(0, " + wild + ")", BAD_VALUE, x.of(0, wild));
            due("of(" + wild + ", 0)", NO_SUCH, x.of(wild, 0));
        }
        x.pass(1);
        due("too old to read", 1, x.of(0, 4));
        due("not too old to write", 0, x.of(1, 4));
        x.pass(149);
        due("at 199", 0, x.of(1, 4));
        x.pass(1);
        due("at 200", 1, x.of(1, 4));
        x.serve(1);
        due("served", NO_SUCH, x.of(0, 0));
        x.slip(READS, 40, 1);
        due("a new one has no joins of an old one", 0, x.of(2, 5));
        due("and no age", 0, x.of(2, 3));
    }

    // ---- promise 8

    private static void waiting() {
        answers.topic("8 waiting");
        DrawerSlips x = new DrawerSlips();
        int[] drawers = {50, 10, 50, 99, 0, 10};
        for (int drawer : drawers) {
            x.slip(READS, drawer, 1);
        }
        x.slip(WRITES, 60, 1);
        x.slip(WRITES, 5, 1);
        int[] order = {4, 1, 5, 0, 2, 3};
        for (int rank = 0; rank < order.length; rank++) {
            due("waiting(0, " + rank + ")", order[rank], x.waiting(READS, rank));
        }
        due("waiting(0, 6)", NO_SUCH, x.waiting(READS, 6));
        due("waiting(1, 0)", 7, x.waiting(WRITES, 0));
        due("waiting(1, 1)", 6, x.waiting(WRITES, 1));
        due("waiting(1, 2)", NO_SUCH, x.waiting(WRITES, 2));
        due("waiting(2, 0)", BAD_VALUE, x.waiting(2, 0));
        due("waiting(2, 99)", BAD_VALUE, x.waiting(2, 99));
        for (int wild : Calls.WILD) {
            due("waiting(0, " + wild + ")", NO_SUCH, x.waiting(READS, wild));
            due("waiting(" + wild + ", 0)", BAD_VALUE, x.waiting(wild, 0));
        }
        x.tear(5);
        due("one fewer", 0, x.waiting(READS, 2));
    }

    // ---- promise 9

    private static void log() {
        answers.topic("9 log");
        DrawerSlips x = new DrawerSlips();
        x.set(MOVE, 0);
        x.slip(READS, 10, 1);
        x.slip(WRITES, 20, 3);
        x.serve(2);
        due("latest number", 1, x.log(0, 0));
        due("latest wait", 8, x.log(0, 1));
        due("latest wrote", 1, x.log(0, 2));
        due("number before", 0, x.log(1, 0));
        due("wait before", 2, x.log(1, 1));
        due("read before", 0, x.log(1, 2));
        due("none before", NO_SUCH, x.log(2, 0));
        due("log(0, 3)", BAD_VALUE, x.log(0, 3));
        due("log(2, 3)", NO_SUCH, x.log(2, 3));
        for (int wild : Calls.WILD) {
            due("log(0, " + wild + ")", BAD_VALUE, x.log(0, wild));
            due("log(" + wild + ", 0)", NO_SUCH, x.log(wild, 0));
        }
        for (int i = 2; i < 47; i++) {
            x.slip(i % 3 == 0 ? WRITES : READS, i, 1 + i % 4);
            x.serve(1);
            int entries = Math.min(20, i + 1);
            due("oldest of " + i, i - entries + 1, x.log(entries - 1, 0));
            due("beyond the oldest", NO_SUCH, x.log(entries, 0));
        }
        for (int ago = 0; ago < 20; ago++) {
            int number = 46 - ago;
            due("number " + ago + " ago", number, x.log(ago, 0));
            due("wait " + ago + " ago", 2 * (1 + number % 4), x.log(ago, 1));
            due("sort " + ago + " ago", number % 3 == 0 ? 1 : 0, x.log(ago, 2));
        }
    }

    // ---- promise 10

    private static void count() {
        answers.topic("10 count");
        DrawerSlips x = new DrawerSlips();
        x.set(BATCH, 2);
        x.slip(READS, 10, 1);
        x.slip(READS, 20, 2);
        x.slip(READS, 30, 1);
        x.slip(READS, 70, 1);
        x.slip(WRITES, 40, 1);
        x.slip(WRITES, 50, 1);
        x.serve(3);
        x.put('r');
        int[] want = {10 + 2 + 9 + 4 + 8 + 2, 1, 2, 31, 3, 35, 27, 2, 1, 2, 50, 200, 2, 2, 1, 2, 1, 6};
        for (int what = 0; what < want.length; what++) {
            due("count(" + what + ")", want[what], x.count(what));
        }
        due("count(18)", BAD_VALUE, x.count(18));
        for (int wild : Calls.WILD) {
            due("count(" + wild + ")", BAD_VALUE, x.count(wild));
        }
        x.serve(3);
        x.slip(READS, 99, 1);
        x.serve(1);
        due("the longest wait stays", Math.max(x.log(1, 1), x.log(2, 1)), x.count(5));
    }

    // ---- promise 11

    private static void next() {
        answers.topic("11 next");
        DrawerSlips x = new DrawerSlips();
        due("none waits", NONE, x.next(0));
        due("none waits", NONE, x.next(1));
        due("none waits", NONE, x.next(2));
        due("next(3)", BAD_VALUE, x.next(3));
        for (int wild : Calls.WILD) {
            due("next(" + wild + ")", BAD_VALUE, x.next(wild));
        }
        x.pass(9);
        x.set(MOVE, 2);
        x.set(SERVE, 7);
        x.slip(READS, 20, 3);
        due("number", 0, x.next(0));
        due("why", 2, x.next(1));
        due("minute", 9 + 40 + 21, x.next(2));
        x.serve(1);
        due("it was so", 70, x.count(0));
        x.slip(READS, 4, 1);
        due("from the lowest", 3, x.next(1));
        due("down", 70 + 2 * 19 + 7, x.next(2));
        due("why of 3", BAD_VALUE, x.next(3));
    }

    // ---- promise 12

    private static void servedIn() {
        answers.topic("12 servedIn");
        DrawerSlips x = new DrawerSlips();
        due("none", NO_SUCH, x.servedIn(0));
        x.pass(100);
        x.slip(READS, 20, 1);
        x.slip(WRITES, 5, 1);
        x.slip(READS, 10, 2);
        due("the nearest", 14, x.servedIn(2));
        due("the next", 14 + 8 + 2, x.servedIn(0));
        due("the last", 24 + 16 + 2, x.servedIn(1));
        due("no such", NO_SUCH, x.servedIn(3));
        for (int wild : Calls.WILD) {
            due("servedIn(" + wild + ")", NO_SUCH, x.servedIn(wild));
        }
        x.serve(1);
        due("served", NO_SUCH, x.servedIn(2));
        due("less by that", 10, x.servedIn(0));
        DrawerSlips y = new DrawerSlips();
        for (int i = 0; i < 30; i++) {
            y.slip(READS, 3 * i, 1);
        }
        due("the thirtieth", 29 * 2 + 30 * 2, y.servedIn(29));
    }

    // ---- promise 13

    private static void all() {
        answers.topic("13 all");
        DrawerSlips x = new DrawerSlips();
        due("none", NONE, x.all(0));
        due("none", NONE, x.all(1));
        due("none", NONE, x.all(2));
        due("all(3)", BAD_VALUE, x.all(3));
        for (int wild : Calls.WILD) {
            due("all(" + wild + ")", BAD_VALUE, x.all(wild));
        }
        x.pass(300);
        x.slip(READS, 10, 1);
        x.pass(100);
        x.slip(READS, 60, 1);
        due("minutes", 10 + 2 + 49 + 2, x.all(0));
        due("drawers", 59, x.all(1));
        due("longest wait", 112, x.all(2));
        x.serve(1);
        due("minutes then", 51, x.all(0));
        due("drawers then", 49, x.all(1));
        due("only of those that wait", 63, x.all(2));
        due("all(3) when one waits", BAD_VALUE, x.all(3));
    }

    private static void whatIfIgnoresTheBoundOfMinutes() {
        answers.topic("11 to 13 ignore the bound of minutes");
        DrawerSlips x = Calls.atMinute(99995);
        x.slip(READS, 50, 1);
        due("not to be served", NOT_POSSIBLE, x.serve(1));
        due("next", 100047, x.next(2));
        due("servedIn", 52, x.servedIn(0));
        due("all", 52, x.all(0));
    }

    private static void whatIfChangesNothing() {
        answers.topic("11 to 14 change nothing");
        DrawerSlips x = new DrawerSlips();
        x.slip(READS, 20, 1);
        x.slip(WRITES, 5, 1);
        x.serve(1);
        x.slip(READS, 30, 1);
        Map<String, Integer> before = Calls.everything(x);
        for (int what = 0; what < 3; what++) {
            x.next(what);
            x.all(what);
            x.servedIn(1 + what % 2);
            x.joined(READS, 31, 1);
        }
        answers.same("behind them", before, Calls.everything(x));
        due("last drawer", 30, x.of(2, 2));
        due("log", 0, x.log(0, 0));
        due("one entry", NO_SUCH, x.log(1, 0));
    }

    // ---- promise 14

    private static void joined() {
        answers.topic("14 joined");
        DrawerSlips x = new DrawerSlips();
        due("none waits", NONE, x.joined(READS, 5, 1));
        x.slip(READS, 10, 4);
        x.slip(READS, 12, 2);
        x.slip(WRITES, 10, 4);
        due("the lowest", 0, x.joined(READS, 14, 5));
        due("the one that has room", 1, x.joined(READS, 14, 7));
        due("no room", NONE, x.joined(READS, 14, 8));
        due("of writes", 2, x.joined(WRITES, 14, 1));
        due("not behind", NONE, x.joined(READS, 15, 1));
        due("within", NONE, x.joined(READS, 13, 1));
        due("ahead", NONE, x.joined(READS, 9, 1));
        due("sort 2", BAD_VALUE, x.joined(2, 14, 1));
        due("no drawers", BAD_VALUE, x.joined(READS, 14, 0));
        due("ten drawers", BAD_VALUE, x.joined(READS, 14, 10));
        due("too high", BAD_VALUE, x.joined(READS, 92, 9));
        due("highest", NONE, x.joined(READS, 91, 9));
        for (int wild : Calls.WILD) {
            due("sort " + wild, BAD_VALUE, x.joined(wild, 14, 1));
            due("drawer " + wild, BAD_VALUE, x.joined(READS, wild, 1));
            due("many " + wild, BAD_VALUE, x.joined(READS, 14, wild));
        }
    }

    // ---- promise 15

    private static void put() {
        answers.topic("15 put");
        DrawerSlips x = new DrawerSlips();
        due("none", BAD_VALUE, x.put(0));
        due("a blank", BAD_VALUE, x.put(32));
        due("127", BAD_VALUE, x.put(127));
        due("255", BAD_VALUE, x.put(255));
        due("-1", BAD_VALUE, x.put(-1));
        due("the least long", BAD_VALUE, x.put(Long.MIN_VALUE));
        due("the greatest long", BAD_VALUE, x.put(Long.MAX_VALUE));
        due("a gap", BAD_VALUE, x.put(0x72000035L));
        due("zero lowest", BAD_VALUE, x.put(0x7200L));
        due("a bit above a gap", BAD_VALUE, x.put(0x0100000000000035L));
        due("eighth above 126", BAD_VALUE, x.put(0x8035353535353535L));
        due("eighth below 33", BAD_VALUE, x.put(0x2035353535353535L));
        due("the pad is empty yet", 0, x.count(16));
        due("33", 1, x.put(33));
        due("126", 2, x.put(126));
        due("eight", 10, x.put(Calls.packed("~~~~~~~~")));
        due("no change", 0, x.count(17));
        for (int i = 1; i < 9; i++) {
            due("more", 10 + 8 * i, x.put(Calls.packed("r1;r1;r1")));
        }
        due("up to 74", 74, x.count(16));
        due("81", TOO_MANY, x.put(Calls.packed("r1;r1;r")));
        due("81 with a blank", BAD_VALUE, x.put(Calls.packed("r1;r1; ")));
        due("80", 80, x.put(Calls.packed("r1;r1;")));
        due("full", TOO_MANY, x.put('r'));
        due("still 80", 80, x.count(16));
        DrawerSlips y = new DrawerSlips();
        Calls.append(y, "r12;w3");
        due("in their order", NONE, y.fault());
        due("carried out", 2, y.carryOut());
        due("drawer 12", 12, y.of(0, 1));
        due("drawer 3", 3, y.of(1, 1));
    }

    // ---- promise 16

    private static void wipe() {
        answers.topic("16 wipe");
        DrawerSlips x = new DrawerSlips();
        due("empty", 0, x.wipe());
        Calls.append(x, "r12;w3+4;");
        due("its length", 9, x.wipe());
        due("empty then", 0, x.count(16));
        due("empty again", 0, x.wipe());
        due("no change", 0, x.count(17));
        Calls.append(x, "s");
        due("nothing of it is left", 1, x.fault());
    }

    // ---- promise 17

    private static int faultOf(String text) {
        DrawerSlips x = new DrawerSlips();
        Calls.append(x, text);
        due("length of " + text, text.length(), x.count(16));
        int fault = x.fault();
        due("the pad stays", text.length(), x.count(16));
        due("the same again", fault, x.fault());
        return fault;
    }

    private static void faultOfGoodTexts() {
        answers.topic("17 fault of good texts");
        String[] texts = {
            "r0", "w0", "s0", "t0", "r9", "r10", "r99", "w99+9", "r0+0", "w10+5", "s99", "t99",
            "r1;w2;s3;t4", "t4;s3;w2+1;r1+0", "r5+1;r5", "s1;s1;s1;s1;s1;s1;s1;s1;s1"
        };
        for (String text : texts) {
            due(text, NONE, faultOf(text));
        }
        String longest = "t10;".repeat(19) + "t9;s";
        due("80 characters that end too early", 80, faultOf(longest));
        due("80 characters", NONE, faultOf("t10;".repeat(19) + "r9+8"));
    }

    private static void faultOfWrongTexts() {
        answers.topic("17 fault of wrong texts");
        String[] texts = {
            "", "r", "w", "s", "t", "r5+", "r5;", "w12;", "s1;t",
            "x", "R5", "5", ";", "+", "rr", "r;", "r+1", "r+", "s+", "r-1",
            "r00", "r01", "s00", "t05", "w05+1", "r100", "t100", "s123", "w1000",
            "r5+x", "r5+;", "r5++", "r5+12", "w5+1+1", "s5+1", "t5+1", "s50+", "t0+",
            "r5;;", "r5;5", "r5;x", "r5r5", "r5+1r", "r5+1;w12;s1;t1;q", "r99+9;r099", "r5/", "r5:", "r/", "r:", "r5+/", "r5+:"
        };
        int[] want = {
            0, 1, 1, 1, 1, 3, 3, 4, 4,
            0, 0, 0, 0, 0, 1, 1, 1, 1, 1, 1,
            2, 2, 2, 2, 2, 3, 3, 3, 3,
            3, 3, 3, 4, 4, 2, 2, 3, 2,
            3, 3, 3, 2, 4, 15, 8, 2, 2, 1, 1, 3, 3
        };
        due("texts", texts.length, want.length);
        for (int i = 0; i < texts.length; i++) {
            due(texts[i], want[i], faultOf(texts[i]));
        }
    }

    // ---- promise 18

    private static void carryOut() {
        answers.topic("18 carryOut");
        DrawerSlips x = new DrawerSlips();
        due("an empty pad", BAD_TEXT, x.carryOut());
        Calls.append(x, "r10;w20+3;t9;s1;r11+8");
        due("all", 5, x.carryOut());
        due("the pad is empty", 0, x.count(16));
        due("one change", 1, x.count(17));
        due("now", 9 + 10 + 2, x.count(0));
        due("of(1, 0)", 1, x.of(1, 0));
        due("of(1, 1)", 20, x.of(1, 1));
        due("of(1, 2)", 23, x.of(1, 2));
        due("of(2, 0)", 0, x.of(2, 0));
        due("of(2, 1)", 11, x.of(2, 1));
        due("of(2, 2)", 19, x.of(2, 2));
        Calls.append(x, "r10;x");
        due("a fault", BAD_TEXT, x.carryOut());
        due("the pad stays", 5, x.count(16));
        due("no change", 1, x.count(17));
        due("none came", 1, x.count(1));
        x.wipe();
        due("undone at once", 0, x.undo());
        due("as before", 0, x.count(0));
        due("none waits", 0, x.count(1) + x.count(2));
        Calls.append(x, "r5;r6;r7+1");
        due("joined ones count", 3, x.carryOut());
        due("one slip", 1, x.count(1));
        due("of four drawers", 8, x.of(0, 2));
        StringBuilder full = new StringBuilder("t1");
        for (int i = 0; i < 26; i++) {
            full.append(";t1");
        }
        Calls.append(x, full.toString());
        due("length", 80, x.count(16));
        due("27 orders", 27, x.carryOut());
        due("27 minutes", 27, x.count(0));
    }

    private static void carryOutStopsAtAnError() {
        answers.topic("18 carryOut stops at an error");
        DrawerSlips x = new DrawerSlips();
        Calls.append(x, "r99+1;t5");
        due("the first", 0, x.carryOut());
        due("the pad is empty", 0, x.count(16));
        due("a change nevertheless", 1, x.count(17));
        due("the second is not carried out", 0, x.count(0));
        Calls.append(x, "t7;r0+9;t8");
        due("ten drawers", 1, x.carryOut());
        due("now", 7, x.count(0));
        Calls.append(x, "t1;s1;t1");
        due("none to serve", 1, x.carryOut());
        Calls.append(x, "t1;t0;t1");
        due("no minutes", 1, x.carryOut());
        Calls.append(x, "r1;s0;t1");
        due("serve none", 1, x.carryOut());
        Calls.append(x, "s31;t1");
        due("serve too many", 0, x.carryOut());
        due("now then", 9, x.count(0));
        due("six changes", 6, x.count(17));
        DrawerSlips y = new DrawerSlips();
        for (int i = 0; i < 29; i++) {
            y.slip(READS, 3 * i, 1);
        }
        Calls.append(y, "r90;r93;t1");
        due("too many wait", 1, y.carryOut());
        due("30 wait", 30, y.count(1));
        DrawerSlips z = Calls.atMinute(99990);
        Calls.append(z, "t9;t1;r1");
        due("too late", 1, z.carryOut());
        Calls.append(z, "r1;s1;r9");
        due("too late to serve", 1, z.carryOut());
    }

    // ---- promise 19

    private static void undo() {
        answers.topic("19 undo");
        DrawerSlips x = new DrawerSlips();
        due("none", NOT_POSSIBLE, x.undo());
        x.pass(5);
        x.slip(READS, 3, 1);
        x.serve(1);
        due("three", 3, x.count(17));
        due("serve", 2, x.undo());
        due("it waits again", 1, x.count(1));
        due("now", 5, x.count(0));
        due("slip", 1, x.undo());
        due("none waits", 0, x.count(1));
        due("the number comes again", 0, x.slip(WRITES, 8, 1));
        due("two again", 2, x.count(17));
        due("slip", 1, x.undo());
        due("pass", 0, x.undo());
        due("now 0", 0, x.count(0));
        due("none", NOT_POSSIBLE, x.undo());
        x.tear(0);
        due("an error is no change", NOT_POSSIBLE, x.undo());
    }

    private static void undoKeepsSixStates() {
        answers.topic("19 undo keeps six states");
        DrawerSlips x = new DrawerSlips();
        for (int i = 1; i <= 9; i++) {
            x.pass(1);
            due("changes", Math.min(i, 6), x.count(17));
        }
        for (int wild : Calls.WILD) {
            x.pass(wild);
        }
        for (int i = 5; i >= 0; i--) {
            due("undo", i, x.undo());
            due("now", 3 + i, x.count(0));
        }
        due("no more", NOT_POSSIBLE, x.undo());
        due("now stays", 3, x.count(0));
        for (int round = 0; round < 10; round++) {
            x.pass(2);
            x.pass(3);
            x.undo();
        }
        due("each round leaves two minutes", 23, x.count(0));
        due("five are left behind an undo", 5, x.count(17));
        due("undo", 4, x.undo());
        due("two minutes less", 21, x.count(0));
    }

    private static void undoLeavesPadAndSlots() {
        answers.topic("19 undo leaves the pad and the slots");
        DrawerSlips x = new DrawerSlips();
        x.pass(1);
        Calls.append(x, "t5");
        x.save(1);
        x.undo();
        due("the pad", 2, x.count(16));
        due("now", 0, x.count(0));
        due("the slot", 0, x.restore(1));
        due("now of the slot", 1, x.count(0));
        x.carryOut();
        x.undo();
        due("the pad stays empty", 0, x.count(16));
    }

    // ---- promise 20

    private static void save() {
        answers.topic("20 save");
        DrawerSlips x = new DrawerSlips();
        due("none waits", 0, x.save(0));
        x.slip(READS, 4, 1);
        x.slip(WRITES, 9, 1);
        due("two wait", 2, x.save(1));
        due("no change", 2, x.count(17));
        due("slot 2", BAD_VALUE, x.save(2));
        for (int wild : Calls.WILD) {
            due("save(" + wild + ")", BAD_VALUE, x.save(wild));
        }
        x.slip(WRITES, 20, 1);
        due("overwrites", 3, x.save(1));
        x.serve(3);
        due("that one", 3, x.restore(1));
        due("and the other", 0, x.restore(0));
    }

    // ---- promise 21

    private static void restore() {
        answers.topic("21 restore");
        DrawerSlips x = new DrawerSlips();
        due("slot 2", BAD_VALUE, x.restore(2));
        due("slot 0", NOT_POSSIBLE, x.restore(0));
        due("slot 1", NOT_POSSIBLE, x.restore(1));
        for (int wild : Calls.WILD) {
            due("restore(" + wild + ")", BAD_VALUE, x.restore(wild));
        }
        due("errors record nothing", 0, x.count(17));
        x.set(STARVE, 5);
        x.slip(READS, 40, 2);
        x.slip(WRITES, 9, 1);
        x.serve(1);
        Map<String, Integer> saved = Calls.everything(x);
        x.save(0);
        due("slot 1 yet", NOT_POSSIBLE, x.restore(1));
        x.serve(1);
        x.slip(READS, 1, 1);
        x.set(STARVE, 1);
        x.put('t');
        due("one waits then", 1, x.restore(0));
        answers.same("restored", saved, Calls.everything(x));
        due("a change", 6, x.count(17));
        due("the pad stays", 1, x.count(16));
        due("the number comes again", 2, x.slip(WRITES, 70, 1));
        due("the slot keeps it", 1, x.restore(0));
        answers.same("restored again", saved, Calls.everything(x));
        due("undone", 5, x.undo());
        due("before it", 70, x.of(2, 1));
    }
}
