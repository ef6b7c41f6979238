import java.util.function.Supplier;
import java.util.function.ToIntFunction;

/** The sentences of the document's terms that name a boundary case: each has a test of its own. */
public final class TermsBoundsTest {
    private static final int NO_SUCH = -1, BAD_VALUE = -2, BAD_TEXT = -3, TOO_MANY = -4, NOT_POSSIBLE = -5, NONE = -6;
    private static final int OLD_READ = 0, OLD_WRITE = 1, BATCH = 2, STARVE = 3, MOVE = 4, SERVE = 5;
    private static final int READS = 0, WRITES = 1;
    private static final int GOES_ON = 0, TOO_OLD = 1, AT_OR_ABOVE = 2, FROM_LOWEST = 3;

    private static final Answers answers = new Answers();

    public static void main(String[] args) {
        general();
        settings();
        slips();
        servingGoesOn();
        servingChoosesTheSort();
        servingChoosesTheSlip();
        servingMoves();
        texts();
        answers.end();
    }

    private static void sentence(String words) {
        answers.sentence(words);
    }

    private static void due(String call, long want, long got) {
        answers.due(call, want, got);
    }

    // ---- conventions

    private static void general() {
        lastsFor512Calls();
        errorsInTheirOrder();
        errorsChangeNothing();
        noneOnlyWithoutAnError();
        numberedFromZero();
    }

    private static void lastsFor512Calls() {
        sentence("An object is used for at most 512 calls after it has been made");
        DrawerSlips x = new DrawerSlips();
        for (int i = 0; i < 256; i++) {
            due("slip " + i, i, x.slip(i % 2, 99, 1));
            due("serve " + i, 1, x.serve(1));
        }
        DrawerSlips y = new DrawerSlips();
        for (int i = 0; i < 511; i++) {
            due("set " + i, i == 0 ? 1 : (i + 8) % 9 + 1, y.set(MOVE, i % 9 + 1));
        }
        due("the 512th call", 6, y.count(17));
    }

    private static void errorsInTheirOrder() {
        sentence("it names its errors in the order in which they are checked, and the first one that applies is returned");
        DrawerSlips late = Calls.atMinute(99999);
        late.slip(READS, 5, 1);
        due("set: no such setting, and no value of any", BAD_VALUE, new DrawerSlips().set(6, 1000));
        due("slip: out of range, and 30 wait", BAD_VALUE, Calls.full().slip(READS, 100, 1));
        due("serve: out of range, and none waits", BAD_VALUE, new DrawerSlips().serve(31));
        due("serve: out of range, and too late", BAD_VALUE, late.serve(31));
        due("pass: out of range, and too late", BAD_VALUE, late.pass(1000));
        due("of: no such slip, and no such what", NO_SUCH, new DrawerSlips().of(0, 6));
        due("waiting: neither, and not so many", BAD_VALUE, new DrawerSlips().waiting(2, 0));
        due("log: no such entry, and no such what", NO_SUCH, new DrawerSlips().log(0, 3));
        due("put: a blank, and no room", BAD_VALUE, Calls.withText("r".repeat(80)).put(' '));
        due("restore: no such slot, and nothing saved", BAD_VALUE, new DrawerSlips().restore(2));
    }

    private static void errorsChangeNothing() {
        sentence("A call that returns an error changes nothing.");
        refusedChanges();
        refusedForWantOfMinutes();
        refusedQuestions();
        refusedTexts();
        refusedStates();
    }

    private static void refusedChanges() {
        Supplier<DrawerSlips> busy = TermsBoundsTest::busy;
        refused("set(6, 1)", BAD_VALUE, busy, x -> x.set(6, 1));
        refused("set(OLD_READ, 0)", BAD_VALUE, busy, x -> x.set(OLD_READ, 0));
        refused("set(SERVE, 21)", BAD_VALUE, busy, x -> x.set(SERVE, 21));
        refused("slip(2, 5, 1)", BAD_VALUE, busy, x -> x.slip(2, 5, 1));
        refused("slip(0, 100, 1)", BAD_VALUE, busy, x -> x.slip(READS, 100, 1));
        refused("slip(0, 5, 10)", BAD_VALUE, busy, x -> x.slip(READS, 5, 10));
        refused("slip(0, 99, 2)", BAD_VALUE, busy, x -> x.slip(READS, 99, 2));
        refused("slip(0, 5, 1) above 30", TOO_MANY, TermsBoundsTest::fullAndSaved, x -> x.slip(READS, 5, 1));
        refused("tear(0)", NO_SUCH, busy, x -> x.tear(0));
        refused("serve(0)", BAD_VALUE, busy, x -> x.serve(0));
        refused("serve(31)", BAD_VALUE, busy, x -> x.serve(31));
        refused("serve(1) of none", NOT_POSSIBLE, TermsBoundsTest::idle, x -> x.serve(1));
        refused("pass(0)", BAD_VALUE, busy, x -> x.pass(0));
        refused("pass(1000)", BAD_VALUE, busy, x -> x.pass(1000));
    }

    private static void refusedForWantOfMinutes() {
        refused("serve(2) that would end too late", NOT_POSSIBLE, TermsBoundsTest::late, x -> x.serve(2));
        refused("pass(999) that would end too late", NOT_POSSIBLE, TermsBoundsTest::late, x -> x.pass(999));
    }

    private static void refusedQuestions() {
        Supplier<DrawerSlips> busy = TermsBoundsTest::busy;
        refused("of(0, 0)", NO_SUCH, busy, x -> x.of(0, 0));
        refused("of(1, 6)", BAD_VALUE, busy, x -> x.of(1, 6));
        refused("waiting(2, 0)", BAD_VALUE, busy, x -> x.waiting(2, 0));
        refused("waiting(0, 30)", NO_SUCH, busy, x -> x.waiting(READS, 30));
        refused("log(20, 0)", NO_SUCH, busy, x -> x.log(20, 0));
        refused("log(0, 3)", BAD_VALUE, busy, x -> x.log(0, 3));
        refused("count(18)", BAD_VALUE, busy, x -> x.count(18));
        refused("next(3)", BAD_VALUE, busy, x -> x.next(3));
        refused("servedIn(0)", NO_SUCH, busy, x -> x.servedIn(0));
        refused("all(3)", BAD_VALUE, busy, x -> x.all(3));
        refused("joined(0, 99, 2)", BAD_VALUE, busy, x -> x.joined(READS, 99, 2));
    }

    private static void refusedTexts() {
        Supplier<DrawerSlips> busy = TermsBoundsTest::busy;
        refused("put(0)", BAD_VALUE, busy, x -> x.put(0));
        refused("put() of a good character and a blank", BAD_VALUE, busy, x -> x.put(Calls.packed("r ")));
        refused("put() of a character above none", BAD_VALUE, busy, x -> x.put(0x72000035L));
        refused("put() above 80", TOO_MANY, TermsBoundsTest::written, x -> x.put(Calls.packed("t10")));
        refused("carryOut() of a fault", BAD_TEXT, busy, DrawerSlips::carryOut);
    }

    private static void refusedStates() {
        refused("undo() of none", NOT_POSSIBLE, TermsBoundsTest::saved, DrawerSlips::undo);
        refused("save(2)", BAD_VALUE, TermsBoundsTest::busy, x -> x.save(2));
        refused("restore(2)", BAD_VALUE, TermsBoundsTest::busy, x -> x.restore(2));
        refused("restore(1) of nothing", NOT_POSSIBLE, TermsBoundsTest::busy, x -> x.restore(1));
    }

    /** Slips of both sorts, a batch under way, a log, a history, a slot, and a text with a fault at its end. */
    private static DrawerSlips busy() {
        DrawerSlips x = new DrawerSlips();
        x.slip(READS, 10, 2);
        x.slip(WRITES, 30, 1);
        x.slip(READS, 40, 1);
        x.slip(READS, 41, 1);
        x.save(0);
        x.serve(1);
        x.pass(3);
        Calls.append(x, "t5;");
        return x;
    }

    private static DrawerSlips idle() {
        DrawerSlips x = busy();
        x.serve(30);
        return x;
    }

    private static DrawerSlips late() {
        DrawerSlips x = Calls.atMinute(99990);
        x.slip(READS, 5, 2);
        x.save(0);
        x.slip(READS, 8, 1);
        Calls.append(x, "t5;");
        return x;
    }

    private static DrawerSlips fullAndSaved() {
        DrawerSlips x = Calls.full();
        x.save(0);
        Calls.append(x, "t5;");
        return x;
    }

    private static DrawerSlips written() {
        DrawerSlips x = busy();
        x.wipe();
        Calls.append(x, "t5;".repeat(26));
        return x;
    }

    private static DrawerSlips saved() {
        DrawerSlips x = new DrawerSlips();
        x.save(0);
        Calls.append(x, "t5;");
        return x;
    }

    /** Compares an archive that refused a call with one that was not asked it. */
    private static void refused(String name, int error, Supplier<DrawerSlips> start, ToIntFunction<DrawerSlips> call) {
        DrawerSlips x = start.get();
        due(name, error, call.applyAsInt(x));
        sameState(name, start.get(), x);
        x = start.get();
        call.applyAsInt(x);
        sameHistory(name, start.get(), x);
        x = start.get();
        call.applyAsInt(x);
        samePadAndSlots(name, start.get(), x);
    }

    private static void sameState(String name, DrawerSlips twin, DrawerSlips x) {
        answers.same("behind " + name, Calls.everything(twin), Calls.everything(x));
        due("the pad's length behind " + name, twin.count(16), x.count(16));
        due("the pad's fault behind " + name, twin.fault(), x.fault());
        due("the changes behind " + name, twin.count(17), x.count(17));
        due("the number of the next slip behind " + name, twin.slip(WRITES, 99, 1), x.slip(WRITES, 99, 1));
    }

    private static void sameHistory(String name, DrawerSlips twin, DrawerSlips x) {
        for (int i = 1; i <= 7; i++) {
            due("undo() " + i + " behind " + name, twin.undo(), x.undo());
        }
        answers.same("behind undo() behind " + name, Calls.everything(twin), Calls.everything(x));
    }

    private static void samePadAndSlots(String name, DrawerSlips twin, DrawerSlips x) {
        due("the other slot behind " + name, NOT_POSSIBLE, x.restore(1));
        due("the slot behind " + name, twin.restore(0), x.restore(0));
        answers.same("behind restore() behind " + name, Calls.everything(twin), Calls.everything(x));
        int orders = Calls.carriedOut(twin, "t2");
        answers.holds("the pad has orders", orders > 0);
        due("the pad's orders behind " + name, orders, Calls.carriedOut(x, "t2"));
        due("now behind " + name, twin.count(0), x.count(0));
    }

    private static void noneOnlyWithoutAnError() {
        sentence("NONE (-6) is not an error; it is returned only if no error applies.");
        DrawerSlips x = new DrawerSlips();
        due("next(0)", NONE, x.next(0));
        due("next(3)", BAD_VALUE, x.next(3));
        due("all(0)", NONE, x.all(0));
        due("all(3)", BAD_VALUE, x.all(3));
        due("joined(0, 0, 1)", NONE, x.joined(READS, 0, 1));
        due("joined(0, 100, 1)", BAD_VALUE, x.joined(READS, 100, 1));
    }

    private static void numberedFromZero() {
        sentence("Everything is numbered from 0.");
        DrawerSlips x = new DrawerSlips();
        due("the first slip", 0, x.slip(WRITES, 0, 1));
        due("the first rank", 0, x.waiting(WRITES, 0));
        due("the first slot", 1, x.save(0));
        due("the last slot", 1, x.save(1));
        x.serve(1);
        due("the latest entry", 0, x.log(0, 0));
        due("the first setting", 50, x.set(0, 51));
        due("the last setting", 2, x.set(5, 3));
        x.put('x');
        due("the first character", 0, x.fault());
    }

    // ---- settings

    private static void settings() {
        sentence("OLD_READ (1 to 999; 50)");
        range(OLD_READ, 1, 999, 50);
        sentence("OLD_WRITE (1 to 999; 200)");
        range(OLD_WRITE, 1, 999, 200);
        sentence("BATCH (1 to 16; 4)");
        range(BATCH, 1, 16, 4);
        sentence("STARVE (1 to 9; 2)");
        range(STARVE, 1, 9, 2);
        sentence("MOVE (0 to 9; 1)");
        range(MOVE, 0, 9, 1);
        sentence("SERVE (1 to 20; 2)");
        range(SERVE, 1, 20, 2);
        ageThatIsTooOld();
        mostSlipsOfABatch();
        batchesThatGoAhead();
        minutesToMove();
        minutesToServe();
    }

    private static void range(int setting, int least, int most, int first) {
        DrawerSlips x = new DrawerSlips();
        due("its first value", first, x.count(10 + setting));
        due("below the least", BAD_VALUE, x.set(setting, least - 1));
        due("above the most", BAD_VALUE, x.set(setting, most + 1));
        for (int wild : Calls.WILD) {
            due("set to " + wild, BAD_VALUE, x.set(setting, wild));
        }
        due("it stays", first, x.count(10 + setting));
        due("the least", first, x.set(setting, least));
        due("it is the least", least, x.count(10 + setting));
        due("the most", least, x.set(setting, most));
        due("it is the most", most, x.count(10 + setting));
    }

    private static void ageThatIsTooOld() {
        sentence("the age from which a slip that reads, writes is too old");
        for (int age : new int[] {1, 2, 50, 200, 999}) {
            tooOldFrom(READS, age);
            tooOldFrom(WRITES, age);
        }
    }

    private static void tooOldFrom(int writes, int age) {
        DrawerSlips x = new DrawerSlips();
        x.set(writes == WRITES ? OLD_WRITE : OLD_READ, age);
        x.set(writes == WRITES ? OLD_READ : OLD_WRITE, age > 500 ? 1 : 999);
        x.slip(writes, 5, 1);
        if (age > 1) {
            x.pass(age - 1);
        }
        String name = (writes == WRITES ? "a write " : "a read ") + "that is too old from " + age;
        due(name + ": below it", 0, x.of(0, 4));
        due(name + ": why, below it", AT_OR_ABOVE, x.next(1));
        x.pass(1);
        due(name + ": at it", 1, x.of(0, 4));
        due(name + ": why, at it", TOO_OLD, x.next(1));
        x.pass(1);
        due(name + ": above it", 1, x.of(0, 4));
        due(name + ": why, above it", TOO_OLD, x.next(1));
    }

    private static void mostSlipsOfABatch() {
        sentence("the most slips of a batch");
        for (int most : new int[] {1, 2, 4, 15, 16}) {
            DrawerSlips x = new DrawerSlips();
            x.set(BATCH, most);
            for (int i = 0; i < 20; i++) {
                x.slip(READS, 2 * i, 1);
            }
            for (int served = 1; served <= 20; served++) {
                x.serve(1);
                due("batches of " + most + " behind " + served, (served + most - 1) / most, x.count(7));
                due("slips of the latest one", (served - 1) % most + 1, x.count(8));
            }
        }
    }

    private static void batchesThatGoAhead() {
        sentence("batches of reads, one behind the other, that go ahead of writes that wait");
        for (int starve = 1; starve <= 9; starve++) {
            DrawerSlips x = new DrawerSlips();
            x.set(STARVE, starve);
            x.set(BATCH, 1);
            x.slip(WRITES, 99, 1);
            for (int i = 0; i < 10; i++) {
                x.slip(READS, 2 * i, 1);
            }
            for (int i = 1; i <= starve; i++) {
                due("reads go ahead, STARVE " + starve, i, x.next(0));
                x.serve(1);
            }
            due("then it writes, STARVE " + starve, 0, x.next(0));
        }
    }

    private static void minutesToMove() {
        sentence("minutes for each drawer that the arm goes");
        for (int move : new int[] {0, 1, 9}) {
            DrawerSlips x = new DrawerSlips();
            x.set(MOVE, move);
            x.set(SERVE, 1);
            x.slip(READS, 99, 1);
            x.serve(1);
            due("up, MOVE " + move, 99 * move + 1, x.count(0));
            x.slip(READS, 0, 1);
            x.serve(1);
            due("and down, MOVE " + move, 2 * (99 * move + 1), x.count(0));
        }
    }

    private static void minutesToServe() {
        sentence("minutes for each drawer that a slip wants");
        for (int serve : new int[] {1, 2, 20}) {
            DrawerSlips x = new DrawerSlips();
            x.set(SERVE, serve);
            x.slip(READS, 0, 1);
            x.serve(1);
            due("one drawer, SERVE " + serve, serve, x.count(0));
            x.slip(READS, 1, 9);
            x.serve(1);
            due("nine more, SERVE " + serve, 10 * serve, x.count(0));
        }
    }

    // ---- slips

    private static void slips() {
        drawersOfTheArchive();
        armAtFirst();
        thirtyCanWait();
        numbersAreNeverGivenAgain();
        soManyDrawers();
        minuteAtFirst();
        joinedWithItsSortRightBehind();
        joinedUpToNine();
        joinedWithTheLowest();
        joinedKeepsItsAge();
        joinedIsNoNewSlip();
    }

    private static void drawersOfTheArchive() {
        sentence("The archive has the drawers 0 to 99");
        DrawerSlips x = new DrawerSlips();
        due("-1", BAD_VALUE, x.slip(READS, -1, 1));
        due("0", 0, x.slip(READS, 0, 1));
        due("99", 1, x.slip(READS, 99, 1));
        due("100", BAD_VALUE, x.slip(READS, 100, 1));
    }

    private static void armAtFirst() {
        sentence("the arm stands at the drawer 0 at first");
        DrawerSlips x = new DrawerSlips();
        due("count(3)", 0, x.count(3));
        x.slip(READS, 0, 1);
        due("the drawer 0 is at the arm", AT_OR_ABOVE, x.next(1));
        due("no way to it", 2, x.next(2));
    }

    private static void thirtyCanWait() {
        sentence("Up to 30 slips can wait.");
        for (int sort = 0; sort < 3; sort++) {
            DrawerSlips x = new DrawerSlips();
            for (int i = 0; i < 30; i++) {
                due("slip " + i, i, x.slip(sort == 2 ? i % 2 : sort, 3 * i, 1));
            }
            due("one more that reads", TOO_MANY, x.slip(READS, 95, 1));
            due("one more that writes", TOO_MANY, x.slip(WRITES, 95, 1));
            due("they wait", 30, x.count(1) + x.count(2));
            x.serve(1);
            due("one when 29 wait", 30, x.slip(READS, 95, 1));
            due("one more again", TOO_MANY, x.slip(READS, 97, 1));
        }
    }

    private static void numbersAreNeverGivenAgain() {
        sentence("(numbers are never given again)");
        DrawerSlips x = new DrawerSlips();
        due("the first", 0, x.slip(READS, 50, 1));
        x.tear(0);
        due("behind one that was torn", 1, x.slip(READS, 50, 1));
        x.serve(1);
        due("behind one that was served", 2, x.slip(READS, 50, 1));
        x.slip(READS, 51, 1);
        due("behind one that was joined", 3, x.slip(WRITES, 50, 1));
        x.slip(READS, 100, 1);
        due("behind one that was refused", 4, x.slip(WRITES, 50, 1));
        x.serve(30);
        due("when none waits", 5, x.slip(WRITES, 50, 1));
    }

    private static void soManyDrawers() {
        sentence("so many drawers (1 to 9, all within 0 to 99)");
        DrawerSlips x = new DrawerSlips();
        due("none", BAD_VALUE, x.slip(READS, 50, 0));
        due("one", 0, x.slip(READS, 50, 1));
        due("nine", 1, x.slip(READS, 50, 9));
        due("ten", BAD_VALUE, x.slip(READS, 50, 10));
        for (int many = 1; many <= 9; many++) {
            due(many + " up to 99", 1 + many, x.slip(WRITES, 100 - many, many));
            due("its last one", 99, x.of(1 + many, 2));
            due(many + " up to 100", BAD_VALUE, x.slip(WRITES, 101 - many, many));
        }
    }

    private static void minuteAtFirst() {
        sentence("The minute of now is 0 at first.");
        due("count(0)", 0, new DrawerSlips().count(0));
        due("one minute later", 1, new DrawerSlips().pass(1));
    }

    private static void joinedWithItsSortRightBehind() {
        sentence("A slip that comes is joined with one that waits, of its sort, if its first drawer is the one behind that one's last one");
        for (int sort = 0; sort < 2; sort++) {
            DrawerSlips x = new DrawerSlips();
            due("the one that waits", 0, x.slip(sort, 10, 3));
            due("at its last one", 1, x.slip(sort, 12, 2));
            due("one further than behind it", 2, x.slip(sort, 15, 1));
            due("that ends ahead of it", 3, x.slip(sort, 8, 2));
            due("of the other sort", 4, x.slip(1 - sort, 13, 1));
            due("right behind it", 0, x.slip(sort, 13, 1));
            due("behind it then", 0, x.slip(sort, 14, 1));
            x.tear(0);
            due("behind one that was torn", 5, x.slip(sort, 15, 1));
            x.serve(30);
            due("behind one that was served", 6, x.slip(sort, 16, 1));
        }
    }

    private static void joinedUpToNine() {
        sentence("and both together want at most 9 drawers");
        for (int many = 1; many <= 9; many++) {
            DrawerSlips x = new DrawerSlips();
            x.slip(READS, 20, many);
            due("together ten", 1, x.slip(READS, 20 + many, 10 - many));
            if (many < 9) {
                due("together nine", 0, x.slip(READS, 20 + many, 9 - many));
                due("the last one of nine", 28, x.of(0, 2));
                due("one more", 2, x.slip(READS, 29, 1));
            }
        }
    }

    private static void joinedWithTheLowest() {
        sentence("the lowest such one wants its drawers, too, then");
        DrawerSlips x = new DrawerSlips();
        x.slip(READS, 70, 1);
        x.slip(READS, 40, 3);
        x.tear(0);
        x.slip(READS, 42, 1);
        due("the lowest number, neither the first place nor the highest drawer", 1, x.slip(READS, 43, 6));
        due("its drawers", 48, x.of(1, 2));
        due("not the other one's", 42, x.of(2, 2));
        x.slip(READS, 41, 2);
        due("the lowest that has room", 2, x.slip(READS, 43, 1));
        DrawerSlips y = new DrawerSlips();
        y.slip(READS, 40, 9);
        y.slip(READS, 45, 4);
        y.slip(READS, 48, 1);
        due("not the lowest of all, if it has no room", 1, y.slip(READS, 49, 1));
    }

    private static void joinedKeepsItsAge() {
        sentence("(its age stays)");
        DrawerSlips x = new DrawerSlips();
        x.slip(WRITES, 40, 1);
        x.pass(200);
        x.slip(WRITES, 41, 1);
        due("its age", 200, x.of(0, 3));
        due("too old, too", 1, x.of(0, 4));
        due("its wait", 200 + 40 + 4, x.all(2));
    }

    private static void joinedIsNoNewSlip() {
        sentence("and no new slip comes");
        DrawerSlips x = Calls.full();
        due("when 30 wait", 28, x.slip(READS, 85, 1));
        due("they wait", 30, x.count(1) + x.count(2));
        x.tear(28);
        due("no number is taken", 30, x.slip(READS, 85, 1));
    }

    // ---- serving: the batch that goes on

    private static void servingGoesOn() {
        noBatchAtFirst();
        fewerThanBatch();
        atTheArmOrAbove();
        leastThenLowestOfTheBatch();
        otherwiseANewBatch();
    }

    private static void noBatchAtFirst() {
        sentence("If the latest batch (of reads or of writes; none at first)");
        for (int sort = 0; sort < 2; sort++) {
            DrawerSlips x = new DrawerSlips();
            x.slip(sort, 0, 1);
            due("the first slip begins one", AT_OR_ABOVE, x.next(1));
            x.serve(1);
            due("batches", 1, x.count(7));
            x.slip(sort, 1, 1);
            due("the second one goes on", GOES_ON, x.next(1));
            x.undo();
            x.undo();
            due("none behind undo()", AT_OR_ABOVE, x.next(1));
        }
    }

    private static void fewerThanBatch() {
        sentence("has had fewer than BATCH slips");
        DrawerSlips x = new DrawerSlips();
        for (int i = 0; i < 8; i++) {
            x.slip(WRITES, 2 * i, 1);
        }
        for (int i = 0; i < 8; i++) {
            due("why of " + i, i % 4 == 0 ? AT_OR_ABOVE : GOES_ON, x.next(1));
            x.serve(1);
        }
        x.slip(WRITES, 20, 1);
        due("behind four of four", AT_OR_ABOVE, x.next(1));
        x.set(BATCH, 5);
        due("behind four of five", GOES_ON, x.next(1));
        x.set(BATCH, 3);
        due("behind four of three", AT_OR_ABOVE, x.next(1));
        x.serve(1);
        due("batches", 3, x.count(7));
    }

    private static void atTheArmOrAbove() {
        sentence("and a slip of its sort waits whose first drawer is at the arm or above it");
        DrawerSlips x = new DrawerSlips();
        x.slip(READS, 9, 1);
        x.serve(1);
        x.slip(READS, 9, 1);
        due("one below the arm", FROM_LOWEST, x.next(1));
        x.slip(WRITES, 10, 1);
        due("one of the other sort", FROM_LOWEST, x.next(1));
        x.slip(READS, 99, 1);
        due("far above", GOES_ON, x.next(1));
        x.slip(READS, 11, 1);
        due("one above", 4, x.next(0));
        x.tear(1);
        x.slip(READS, 10, 1);
        due("at the arm", 5, x.next(0));
        due("it goes on", GOES_ON, x.next(1));
    }

    private static void leastThenLowestOfTheBatch() {
        sentence("the one of these with the least first drawer, of several the lowest one. The batch goes on.");
        DrawerSlips x = new DrawerSlips();
        x.slip(READS, 0, 1);
        x.slip(READS, 70, 1);
        x.serve(1);
        x.slip(READS, 30, 3);
        x.slip(READS, 20, 9);
        x.tear(1);
        x.slip(READS, 20, 1);
        due("the lowest of two at 20", 3, x.next(0));
        due("it goes on", GOES_ON, x.next(1));
        x.serve(1);
        due("the same batch", 1, x.count(7));
        due("two slips", 2, x.count(8));
        due("20 is below the arm then", 2, x.next(0));
    }

    private static void otherwiseANewBatch() {
        sentence("Otherwise a new batch begins.");
        DrawerSlips x = new DrawerSlips();
        x.slip(READS, 20, 1);
        x.serve(1);
        x.slip(READS, 20, 1);
        x.serve(1);
        due("batches behind one below the arm", 2, x.count(7));
        due("slips of the second one", 1, x.count(8));
        x.slip(WRITES, 50, 1);
        x.serve(1);
        due("batches behind one of the other sort", 3, x.count(7));
        x.slip(READS, 60, 1);
        x.serve(1);
        due("batches behind one of the first sort", 4, x.count(7));
        x.pass(999);
        due("minutes end none", 4, x.count(7));
        x.slip(READS, 61, 1);
        x.serve(1);
        due("the latest one goes on", 4, x.count(7));
        due("slips of the latest one", 2, x.count(8));
    }

    // ---- serving: the sort of a new batch

    private static void servingChoosesTheSort() {
        onlyWrites();
        onlyReads();
        bothWait();
        starvedWrites();
        aheadAsTheyBegan();
        beginsWhileWritesWait();
        beginsWhileNoneWaits();
        writesSetItToZero();
    }

    private static void onlyWrites() {
        sentence("if none waits that reads, writes");
        DrawerSlips x = new DrawerSlips();
        x.slip(WRITES, 8, 1);
        due("none went ahead", 0, x.count(9));
        due("it writes", 0, x.next(0));
        x.slip(READS, 9, 1);
        due("when one reads", 1, x.next(0));
    }

    private static void onlyReads() {
        sentence("if none waits that writes, reads");
        DrawerSlips x = new DrawerSlips();
        x.set(STARVE, 1);
        x.set(BATCH, 1);
        x.slip(WRITES, 90, 1);
        x.slip(READS, 2, 1);
        x.slip(READS, 4, 1);
        x.serve(1);
        due("when one writes", 0, x.next(0));
        x.tear(0);
        due("STARVE went ahead", 1, x.count(9));
        due("it reads", 2, x.next(0));
    }

    private static void bothWait() {
        sentence("if both wait: writes, if STARVE batches of reads, or more");
        DrawerSlips x = new DrawerSlips();
        x.set(BATCH, 1);
        x.slip(WRITES, 0, 1);
        x.pass(999);
        x.slip(READS, 90, 1);
        x.slip(READS, 92, 1);
        x.slip(READS, 94, 1);
        due("otherwise reads, be they farther and younger", 1, x.next(0));
        x.serve(1);
        due("otherwise reads, when one batch went ahead", 2, x.next(0));
        x.serve(1);
        due("writes, when two went ahead", 0, x.next(0));
    }

    private static void starvedWrites() {
        sentence("if STARVE batches of reads, or more, one behind the other, went ahead of writes that waited");
        DrawerSlips x = new DrawerSlips();
        x.set(BATCH, 1);
        x.set(STARVE, 9);
        x.slip(WRITES, 90, 1);
        for (int i = 0; i < 6; i++) {
            x.slip(READS, 2 * i, 1);
        }
        x.serve(3);
        due("three went ahead", 3, x.count(9));
        x.set(STARVE, 4);
        due("one fewer than STARVE", 4, x.next(0));
        x.set(STARVE, 3);
        due("STARVE", 0, x.next(0));
        x.set(STARVE, 2);
        due("one more than STARVE", 0, x.next(0));
        x.set(STARVE, 1);
        due("two more than STARVE", 0, x.next(0));
    }

    private static void aheadAsTheyBegan() {
        sentence("(as they began)");
        DrawerSlips x = new DrawerSlips();
        x.slip(READS, 1, 1);
        x.serve(1);
        x.slip(WRITES, 90, 1);
        x.slip(READS, 3, 1);
        x.serve(1);
        due("the batch goes on while one writes", 0, x.count(9));
        DrawerSlips y = new DrawerSlips();
        y.slip(WRITES, 90, 1);
        y.slip(READS, 1, 1);
        y.serve(1);
        y.tear(0);
        y.slip(READS, 3, 1);
        y.serve(1);
        due("the write is gone before the batch ends", 1, y.count(9));
    }

    private static void beginsWhileWritesWait() {
        sentence("A new batch of reads that begins while writes wait counts as one that went ahead");
        DrawerSlips x = new DrawerSlips();
        x.slip(WRITES, 90, 1);
        for (int i = 0; i < 8; i++) {
            x.slip(READS, 2 * i, 1);
        }
        int[] ahead = {1, 1, 1, 1, 2, 2, 2, 2};
        for (int i = 0; i < 8; i++) {
            x.serve(1);
            due("behind " + (i + 1) + " reads", ahead[i], x.count(9));
        }
    }

    private static void beginsWhileNoneWaits() {
        sentence("one that begins while none waits changes nothing of that");
        DrawerSlips x = new DrawerSlips();
        x.set(BATCH, 1);
        x.slip(READS, 1, 1);
        x.serve(1);
        due("no write waits", 0, x.count(9));
        x.slip(WRITES, 90, 1);
        x.slip(READS, 3, 1);
        x.serve(1);
        due("one waits", 1, x.count(9));
        x.tear(1);
        x.slip(READS, 5, 1);
        x.serve(1);
        due("none waits again", 1, x.count(9));
        x.slip(WRITES, 90, 1);
        x.slip(READS, 7, 1);
        x.serve(1);
        due("one behind the other nevertheless", 2, x.count(9));
    }

    private static void writesSetItToZero() {
        sentence("a batch of writes sets it to 0");
        DrawerSlips x = new DrawerSlips();
        x.set(BATCH, 1);
        x.slip(WRITES, 90, 1);
        x.slip(WRITES, 92, 1);
        for (int i = 0; i < 4; i++) {
            x.slip(READS, 2 * i, 1);
        }
        int[] ahead = {1, 2, 0, 1, 2, 0};
        for (int i = 0; i < 6; i++) {
            x.serve(1);
            due("behind " + (i + 1) + " batches", ahead[i], x.count(9));
        }
    }

    // ---- serving: the first slip of a new batch

    private static void servingChoosesTheSlip() {
        oldestIfTooOld();
        nearestAtTheArmOrAbove();
        leastOfAll();
    }

    private static void oldestIfTooOld() {
        sentence("the oldest of its sort (the lowest number of those that came first), if that is too old");
        DrawerSlips x = new DrawerSlips();
        x.slip(READS, 90, 1);
        x.slip(READS, 60, 1);
        x.slip(READS, 50, 1);
        x.tear(0);
        x.pass(1);
        x.slip(READS, 10, 1);
        x.pass(48);
        due("age 49", 3, x.next(0));
        x.pass(1);
        due("age 50: the lowest of those that came first", 1, x.next(0));
        due("why", TOO_OLD, x.next(1));
        x.tear(1);
        due("then the other one", 2, x.next(0));
        x.tear(2);
        due("age 49 of the last", AT_OR_ABOVE, x.next(1));
        DrawerSlips y = new DrawerSlips();
        y.set(OLD_WRITE, 1);
        y.slip(WRITES, 40, 1);
        y.pass(60);
        y.slip(READS, 30, 1);
        due("one of the other sort is too old", AT_OR_ABOVE, y.next(1));
        due("of its sort", 1, y.next(0));
    }

    private static void nearestAtTheArmOrAbove() {
        sentence("otherwise of its sort the one with the least first drawer that is at the arm or above it, of several the lowest one");
        DrawerSlips x = armAtTen();
        x.slip(READS, 9, 1);
        x.slip(READS, 60, 1);
        x.slip(READS, 30, 1);
        x.slip(READS, 11, 1);
        x.tear(2);
        x.slip(READS, 11, 2);
        x.slip(WRITES, 10, 1);
        due("the lowest of two one above the arm", 4, x.next(0));
        due("why", AT_OR_ABOVE, x.next(1));
        x.slip(READS, 10, 9);
        due("at the arm", 7, x.next(0));
        due("why, at the arm", AT_OR_ABOVE, x.next(1));
        due("no way to it", x.count(0) + 18, x.next(2));
    }

    /** An archive whose arm is at 10, behind a batch of one read (the slip 0) that has no room. */
    private static DrawerSlips armAtTen() {
        DrawerSlips x = new DrawerSlips();
        x.set(BATCH, 1);
        x.slip(READS, 9, 1);
        x.serve(1);
        return x;
    }

    private static void leastOfAll() {
        sentence("if there is none, the one with the least first drawer of all of its sort, likewise");
        DrawerSlips x = armAtTen();
        x.slip(READS, 60, 1);
        x.slip(READS, 9, 1);
        x.slip(READS, 4, 3);
        x.tear(1);
        x.slip(READS, 4, 1);
        x.slip(WRITES, 2, 1);
        due("the lowest of two at 4", 3, x.next(0));
        due("why", FROM_LOWEST, x.next(1));
        x.slip(READS, 0, 1);
        due("at 0", 6, x.next(0));
        due("why, at 0", FROM_LOWEST, x.next(1));
        x.slip(READS, 99, 1);
        due("when one is above", 7, x.next(0));
    }

    // ---- serving: the way

    private static void servingMoves() {
        drawersOnTheWay();
        behindTheLastOne();
        goneThen();
        itsWait();
        latestTwenty();
    }

    private static void drawersOnTheWay() {
        sentence("To serve it the arm goes to its first drawer (MOVE minutes for each drawer on the way), and then serves each of its drawers");
        DrawerSlips x = new DrawerSlips();
        x.set(MOVE, 5);
        x.set(SERVE, 1);
        x.slip(READS, 0, 3);
        x.serve(1);
        due("no drawer on the way", 3, x.count(0));
        x.slip(READS, 4, 1);
        x.serve(1);
        due("one up", 3 + 5 + 1, x.count(0));
        x.slip(READS, 4, 1);
        x.serve(1);
        due("one down", 9 + 5 + 1, x.count(0));
        x.slip(READS, 99, 1);
        x.serve(1);
        due("94 up", 15 + 470 + 1, x.count(0));
        x.slip(READS, 0, 9);
        x.serve(1);
        due("99 down", 486 + 495 + 9, x.count(0));
    }

    private static void behindTheLastOne() {
        sentence("it stands behind the last one then (at most at 99)");
        int[][] slips = {{0, 1, 1}, {10, 9, 19}, {97, 1, 98}, {90, 8, 98}, {98, 1, 99}, {90, 9, 99}, {99, 1, 99}, {91, 9, 99}};
        for (int[] slip : slips) {
            DrawerSlips x = new DrawerSlips();
            x.slip(WRITES, slip[0], slip[1]);
            x.serve(1);
            due("from " + slip[0] + " on " + slip[1], slip[2], x.count(3));
        }
    }

    private static void goneThen() {
        sentence("The slip is gone then");
        DrawerSlips x = new DrawerSlips();
        x.slip(READS, 10, 1);
        x.slip(READS, 20, 1);
        x.serve(1);
        due("of(0, 0)", NO_SUCH, x.of(0, 0));
        due("tear(0)", NO_SUCH, x.tear(0));
        due("servedIn(0)", NO_SUCH, x.servedIn(0));
        due("the one that waits", 1, x.waiting(READS, 0));
        due("no other one", NO_SUCH, x.waiting(READS, 1));
        due("how many read", 1, x.count(1));
        due("joined with none", NONE, x.joined(READS, 11, 1));
    }

    private static void itsWait() {
        sentence("its wait is from when it came until then");
        DrawerSlips x = new DrawerSlips();
        x.set(SERVE, 1);
        x.pass(40);
        x.slip(READS, 0, 1);
        x.serve(1);
        due("the least wait", 1, x.log(0, 1));
        x.pass(7);
        x.slip(WRITES, 5, 2);
        x.pass(3);
        x.serve(1);
        due("minutes ahead of it, on the way and at it", 3 + 4 + 2, x.log(0, 1));
    }

    private static void latestTwenty() {
        sentence("The log has the latest 20 slips that were served.");
        DrawerSlips x = new DrawerSlips();
        due("none", NO_SUCH, x.log(0, 0));
        for (int served = 1; served <= 61; served++) {
            x.slip(served % 2, 99, 1);
            x.serve(1);
            int oldest = Math.max(served - 20, 0);
            due("the latest of " + served, served - 1, x.log(0, 0));
            due("the oldest of " + served, oldest, x.log(served - 1 - oldest, 0));
            due("whether it wrote", (oldest + 1) % 2, x.log(served - 1 - oldest, 2));
            due("none before it", NO_SUCH, x.log(served - oldest, 0));
        }
    }

    // ---- texts

    private static void texts() {
        atMostEightyCharacters();
        rowOfOrders();
        kindsOfOrders();
        whatOrdersDo();
        soManyMore();
        digitsAndNumbers();
        firstThatCannotStand();
        digitAbove99();
        endsTooEarly();
    }

    private static void atMostEightyCharacters() {
        sentence("The pad is a text of at most 80 characters");
        DrawerSlips x = Calls.withText("t1;".repeat(26) + "t");
        due("79", 79, x.count(16));
        due("two more", TOO_MANY, x.put(Calls.packed("11")));
        due("one more", 80, x.put('1'));
        due("one more again", TOO_MANY, x.put('1'));
        due("it is read to its end", NONE, x.fault());
        due("and carried out", 27, x.carryOut());
        due("empty again", 1, x.put('1'));
    }

    private static void fault(String text, int want) {
        due("fault of '" + text + "'", want, Calls.withText(text).fault());
    }

    private static void rowOfOrders() {
        sentence("text = order { \";\" order }");
        fault("t1", NONE);
        fault("t1;t2", NONE);
        fault("r1;w2;s3;t4;r1+0;w2+9", NONE);
        fault(";t1", 0);
        fault("t1;;t2", 3);
        fault("t1,t2", 2);
        fault("t1t2", 2);
        fault("t1;", 3);
    }

    private static void kindsOfOrders() {
        sentence("order = \"r\" number [ \"+\" digit ] | \"w\" number [ \"+\" digit ] | \"s\" number | \"t\" number");
        for (int sign = 33; sign <= 126; sign++) {
            boolean isKind = sign == 'r' || sign == 'w' || sign == 's' || sign == 't';
            boolean isSlip = sign == 'r' || sign == 'w';
            fault((char) sign + "7", isKind ? NONE : 0);
            fault((char) sign + "7+3", isSlip ? NONE : isKind ? 2 : 0);
            fault("r" + (char) sign, sign >= '0' && sign <= '9' ? NONE : 1);
            fault("w7" + (char) sign, sign >= '0' && sign <= '9' ? NONE : sign == '+' || sign == ';' ? 3 : 2);
            fault("s7" + (char) sign, sign >= '0' && sign <= '9' ? NONE : sign == ';' ? 3 : 2);
            fault("r77" + (char) sign, sign == '+' || sign == ';' ? 4 : 3);
            fault("t77" + (char) sign, sign == ';' ? 4 : 3);
            fault("r7+" + (char) sign, sign >= '0' && sign <= '9' ? NONE : 3);
            fault("r7+7" + (char) sign, sign == ';' ? 5 : 4);
        }
    }

    private static void whatOrdersDo() {
        sentence("\"s\": serve() so many; \"t\": pass() minutes");
        DrawerSlips x = Calls.full();
        due("s0", 0, Calls.carriedOut(x, "s0"));
        due("s31", 0, Calls.carriedOut(x, "s31"));
        due("s99", 0, Calls.carriedOut(x, "s99"));
        due("none is served", 0, x.count(4));
        due("s1", 1, Calls.carriedOut(x, "s1"));
        due("one is served", 1, x.count(4));
        due("s30", 1, Calls.carriedOut(x, "s30"));
        due("30 are served", 30, x.count(4));
        due("s30 of none", 0, Calls.carriedOut(x, "s30"));
        DrawerSlips y = new DrawerSlips();
        due("t0", 0, Calls.carriedOut(y, "t0"));
        due("t1", 1, Calls.carriedOut(y, "t1"));
        due("t99", 1, Calls.carriedOut(y, "t99"));
        due("now", 100, y.count(0));
    }

    private static void soManyMore() {
        sentence("so many drawers more (0, if it is left out)");
        String[] texts = {"r50", "r50+0", "r50+1", "r50+8", "w50", "w50+0", "w50+1", "w50+8"};
        int[] last = {50, 50, 51, 58, 50, 50, 51, 58};
        for (int i = 0; i < texts.length; i++) {
            DrawerSlips x = Calls.withText(texts[i]);
            due("carryOut() of " + texts[i], 1, x.carryOut());
            due("whether it writes", i / 4, x.of(0, 0));
            due("first drawer of " + texts[i], 50, x.of(0, 1));
            due("last drawer of " + texts[i], last[i], x.of(0, 2));
        }
        due("nine more are too many", 0, Calls.carriedOut(new DrawerSlips(), "r50+9"));
        DrawerSlips x = new DrawerSlips();
        due("not those of the order before", 2, Calls.carriedOut(x, "r50+3;w50"));
        due("its last drawer", 50, x.of(1, 2));
    }

    private static void digitsAndNumbers() {
        sentence("A digit is 0 to 9, a number 0 to 99, without leading zeros.");
        for (int number = 0; number <= 99; number++) {
            fault("t" + number, NONE);
        }
        for (int digit = 0; digit <= 9; digit++) {
            fault("r5+" + digit, NONE);
            fault("s0" + digit, 2);
        }
        for (String order : new String[] {"r", "w", "s", "t"}) {
            fault(order + "00", 2);
            fault(order + "07", 2);
            fault(order + "/", 1);
            fault(order + ":", 1);
        }
        fault("r5+/", 3);
        fault("r5+:", 3);
        fault("r5+00", 4);
    }

    private static void firstThatCannotStand() {
        sentence("The fault is the index of the first character that cannot stand at its place when the text is read from left to right");
        fault("x", 0);
        fault("R1", 0);
        fault("1", 0);
        fault("tt", 1);
        fault("t+", 1);
        fault("t1x", 2);
        fault("s1+1", 2);
        fault("t1+1", 2);
        fault("r1+x", 3);
        fault("r1+1+1", 4);
        fault("r1+11", 4);
        fault("t1;x", 3);
        fault("x;y", 0);
        fault("t1;".repeat(26) + "tx", 79);
        fault("t1;".repeat(26) + "xx", 78);
    }

    private static void digitAbove99() {
        sentence("(also of a digit by which a number would be above 99)");
        fault("t100", 3);
        fault("r99", NONE);
        fault("r990", 3);
        fault("w999+1", 3);
        fault("t1;s1000", 6);
    }

    private static void endsTooEarly() {
        sentence("if there is none and the text ends too early (also if it is empty), it is the length of the text");
        fault("", 0);
        fault("r", 1);
        fault("w", 1);
        fault("s", 1);
        fault("t", 1);
        fault("r1+", 3);
        fault("w99+", 4);
        fault("t1;", 3);
        fault("t1;".repeat(26) + "t1", NONE);
        fault("t1;".repeat(26) + "r", 79);
        fault("t1;".repeat(26) + "1;", 78);
        fault("t1;".repeat(25) + "t10;w", 80);
        fault("t1;".repeat(25) + "r99+1", NONE);
        fault("t1;".repeat(25) + "t1;r", 79);
        fault("t1;".repeat(25) + "t10+", 78);
        fault("t1;".repeat(25) + "r10+", 79);
        fault("t10;".repeat(19) + "r10+", 80);
        fault("t10;".repeat(20), 80);
    }
}
