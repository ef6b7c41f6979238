/** Long runs of calls on new objects, each answer compared with that of the model. */
public final class ModelTest {
    private static final int RUNS = 4000;
    /** An object is used for at most 512 calls; one step of a run makes at most eleven. */
    private static final int CALLS = 512 - 11;
    private static final String[] PIECES = {
        "r", "w", "s", "t", "1", "9", "0", "+", ";", "x", "r5", "r6", "w5+1", "w7", "s1", "s3", "t9", "t99", "r0+8;",
        ";w99", ";r98+1", ";s30", ";s2", ";t1", "r12;", "r13;", "~", "+3"
    };

    private static final Answers answers = new Answers();
    private static long seed;

    /** A row of numbers that is the same each time, so that a run that fails can be run again. */
    private static int roll(int bound) {
        seed = seed * 6364136223846793005L + 1442695040888963407L;
        return (int) ((seed >>> 33) % bound);
    }

    private static int near(int from, int to) {
        int roll = roll(40);
        if (roll == 0) {
            return from - 1;
        }
        if (roll == 1) {
            return to + 1;
        }
        if (roll == 2) {
            return roll(2) == 0 ? Integer.MIN_VALUE + roll(12) : Integer.MAX_VALUE - roll(12);
        }
        return from + roll(to - from + 1);
    }

    public static void main(String[] args) {
        for (int run = 0; run < RUNS && answers.wrong() < 20; run++) {
            seed = run;
            answers.topic("run " + run);
            compare(run % 8);
        }
        answers.end();
    }

    private static void compare(int style) {
        int end = answers.asked() + CALLS;
        DrawerSlips x = new DrawerSlips();
        Model m = new Model();
        if (style == 7) {
            hasten(x, m);
        }
        while (answers.asked() < end) {
            if (roll(12) == 0) {
                ask(x, m);
            } else {
                change(x, m, style);
            }
        }
    }

    /** Brings both near the last minute. */
    private static void hasten(DrawerSlips x, Model m) {
        for (int i = 0; i < 100; i++) {
            answers.due("pass(999)", m.pass(999), x.pass(999));
        }
        int minutes = 10 + roll(89);
        answers.due("pass(" + minutes + ")", m.pass(minutes), x.pass(minutes));
    }

    private static int drawer(int style) {
        return style % 2 == 0 ? near(0, 20) : near(0, 99);
    }

    private static void change(DrawerSlips x, Model m, int style) {
        int roll = roll(100);
        if (roll < (style < 4 ? 45 : 30)) {
            int writes = roll(60) == 0 ? near(0, 1) : roll(style % 3 == 0 ? 2 : 3) == 0 ? 1 : 0;
            int drawer = drawer(style);
            int many = roll(3) == 0 ? near(1, 9) : 1 + roll(2);
            answers.due("slip(" + writes + ", " + drawer + ", " + many + ")",
                m.slip(writes, drawer, many), x.slip(writes, drawer, many));
        } else if (roll < 60) {
            int many = roll(8) == 0 ? near(1, 30) : 1 + roll(3);
            answers.due("serve(" + many + ")", m.serve(many), x.serve(many));
        } else if (roll < 66) {
            int minutes = style == 7 ? near(1, 5) : roll(6) == 0 ? near(1, 999) : near(1, 40);
            answers.due("pass(" + minutes + ")", m.pass(minutes), x.pass(minutes));
        } else if (roll < 70) {
            int slip = anySlip(m);
            answers.due("tear(" + slip + ")", m.tear(slip), x.tear(slip));
        } else if (roll < 75) {
            int setting = near(0, 5);
            int value = roll(4) == 0 ? near(1, 999) : near(0, 16);
            answers.due("set(" + setting + ", " + value + ")", m.set(setting, value), x.set(setting, value));
        } else if (roll < 85) {
            write(x, m);
        } else if (roll < 88) {
            answers.due("carryOut()", m.carryOut(), x.carryOut());
        } else if (roll < 89) {
            answers.due("wipe()", m.wipe(), x.wipe());
        } else if (roll < 95) {
            answers.due("undo()", m.undo(), x.undo());
        } else if (roll < 98) {
            int slot = near(0, 1);
            answers.due("save(" + slot + ")", m.save(slot), x.save(slot));
        } else {
            int slot = near(0, 1);
            answers.due("restore(" + slot + ")", m.restore(slot), x.restore(slot));
        }
    }

    private static void write(DrawerSlips x, Model m) {
        long characters = 0;
        if (roll(20) == 0) {
            characters = seed << roll(60) >>> roll(60);
        } else {
            String piece = PIECES[roll(PIECES.length)];
            for (int i = 0; i < piece.length(); i++) {
                characters = characters << 8 | piece.charAt(i);
            }
        }
        answers.due("put(" + characters + ")", m.put(characters), x.put(characters));
        int fault = m.fault();
        answers.due("fault()", fault, x.fault());
        if (fault >= 0 && fault < m.count(16) && roll(2) == 0) {
            answers.due("wipe()", m.wipe(), x.wipe());
        }
    }

    private static int anySlip(Model m) {
        if (roll(10) == 0) {
            return near(0, 300);
        }
        int writes = roll(2);
        int slips = m.count(1 + writes);
        return slips > 0 ? m.waiting(writes, roll(slips)) : -1;
    }

    private static void ask(DrawerSlips x, Model m) {
        int what = near(0, 5);
        int few = near(0, 2);
        int slip = anySlip(m);
        int ago = near(0, 20);
        int writes = near(0, 1);
        int rank = near(0, 12);
        int drawer = drawer(0);
        int many = near(1, 9);
        int count = near(0, 17);
        answers.due("of(" + slip + ", " + what + ")", m.of(slip, what), x.of(slip, what));
        answers.due("waiting(" + writes + ", " + rank + ")", m.waiting(writes, rank), x.waiting(writes, rank));
        answers.due("log(" + ago + ", " + few + ")", m.log(ago, few), x.log(ago, few));
        answers.due("count(" + count + ")", m.count(count), x.count(count));
        answers.due("next(" + few + ")", m.next(few), x.next(few));
        answers.due("next(0)", m.next(0), x.next(0));
        answers.due("next(1)", m.next(1), x.next(1));
        answers.due("servedIn(" + slip + ")", m.servedIn(slip), x.servedIn(slip));
        answers.due("all(" + few + ")", m.all(few), x.all(few));
        answers.due("joined(" + writes + ", " + drawer + ", " + many + ")",
            m.joined(writes, drawer, many), x.joined(writes, drawer, many));
        answers.due("fault()", m.fault(), x.fault());
    }
}
