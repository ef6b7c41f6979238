/** Slips of an archive that are served near drawers first, until a slip is too old. */
public final class DrawerSlips {
    public static final int NO_SUCH = -1, BAD_VALUE = -2, BAD_TEXT = -3, TOO_MANY = -4, NOT_POSSIBLE = -5, NONE = -6;
    public static final int OLD_READ = 0, OLD_WRITE = 1, BATCH = 2, STARVE = 3, MOVE = 4, SERVE = 5;

    private static final int READS = 0, WRITES = 1;
    private static final int LAST_DRAWER = 99, LAST_MINUTE = 99999, LONGEST_PASS = 999;
    private static final int MOST_SLIPS = 30, MOST_DRAWERS = 9;
    private static final int GOES_ON = 0, TOO_OLD = 1, AT_OR_ABOVE = 2, FROM_LOWEST = 3;
    private static final int[] LEAST_VALUES = {1, 1, 1, 1, 0, 1};
    private static final int[] MOST_VALUES = {999, 999, 16, 9, 9, 20};
    private static final int[] FIRST_VALUES = {50, 200, 4, 2, 1, 2};

    private final Archive archive = new Archive();
    /** Serving is tried here, so that the archive stays as it is if it may not, or shall not, be served. */
    private final Archive trial = new Archive();
    private final History history = new History();
    private final Slot firstSlot = new Slot();
    private final Slot secondSlot = new Slot();
    private final Pad pad = new Pad();
    private final Reader reader = new Reader(pad);

    public DrawerSlips() {
    }

    // ---- changes

    public int set(int setting, int value) {
        history.prepare(archive);
        return settled(archive.adjust(setting, value));
    }

    public int slip(int writes, int drawer, int many) {
        history.prepare(archive);
        return settled(archive.accept(writes, drawer, many));
    }

    public int tear(int slip) {
        history.prepare(archive);
        return settled(archive.tearUp(slip));
    }

    public int serve(int many) {
        history.prepare(archive);
        return settled(serveSlips(many));
    }

    public int pass(int minutes) {
        history.prepare(archive);
        return settled(archive.stand(minutes));
    }

    /** Records the prepared state if the change that gave this answer was not an error. */
    private int settled(int answer) {
        if (answer >= 0) {
            history.keep();
        }
        return answer;
    }

    private int serveSlips(int many) {
        if (many < 1 || many > MOST_SLIPS) {
            return BAD_VALUE;
        }
        int served = Math.min(many, archive.slipsThatWait());
        if (served == 0) {
            return NOT_POSSIBLE;
        }
        trial.copyFrom(archive);
        for (int i = 0; i < served; i++) {
            trial.serveNext();
        }
        if (trial.now > LAST_MINUTE) {
            return NOT_POSSIBLE;
        }
        archive.copyFrom(trial);
        return served;
    }

    // ---- what there is

    public int of(int slip, int what) {
        Slip found = archive.find(slip);
        if (found == null) {
            return NO_SUCH;
        }
        switch (what) {
            case 0: return found.writes;
            case 1: return found.first;
            case 2: return found.last();
            case 3: return archive.age(found);
            case 4: return archive.isTooOld(found) ? 1 : 0;
            case 5: return found.joins;
            default: return BAD_VALUE;
        }
    }

    public int waiting(int writes, int rank) {
        if (writes != READS && writes != WRITES) {
            return BAD_VALUE;
        }
        Slip found = archive.ranked(writes, rank);
        return found == null ? NO_SUCH : found.number;
    }

    public int log(int ago, int what) {
        if (!archive.lately.has(ago)) {
            return NO_SUCH;
        }
        switch (what) {
            case 0: return archive.lately.numberOf(ago);
            case 1: return archive.lately.waitOf(ago);
            case 2: return archive.lately.sortOf(ago);
            default: return BAD_VALUE;
        }
    }

    public int count(int what) {
        switch (what) {
            case 16: return pad.length;
            case 17: return history.kept;
            default: return archive.amount(what);
        }
    }

    // ---- what if

    public int next(int what) {
        if (what < 0 || what > 2) {
            return BAD_VALUE;
        }
        int why = archive.reason();
        Slip slip = archive.chosen(why);
        if (slip == null) {
            return NONE;
        }
        switch (what) {
            case 0: return slip.number;
            case 1: return why;
            default: return archive.now + archive.minutesFor(slip);
        }
    }

    public int servedIn(int slip) {
        if (archive.find(slip) == null) {
            return NO_SUCH;
        }
        trial.copyFrom(archive);
        for (int i = 0; i < MOST_SLIPS && trial.find(slip) != null; i++) {
            trial.serveNext();
        }
        return trial.now - archive.now;
    }

    public int all(int what) {
        if (what < 0 || what > 2) {
            return BAD_VALUE;
        }
        int slips = archive.slipsThatWait();
        if (slips == 0) {
            return NONE;
        }
        trial.copyFrom(archive);
        trial.longestWait = 0;
        for (int i = 0; i < slips; i++) {
            trial.serveNext();
        }
        switch (what) {
            case 0: return trial.now - archive.now;
            case 1: return trial.drawersGone - archive.drawersGone;
            default: return trial.longestWait;
        }
    }

    public int joined(int writes, int drawer, int many) {
        if (!isSlip(writes, drawer, many)) {
            return BAD_VALUE;
        }
        Slip host = archive.hostFor(writes, drawer, many);
        return host == null ? NONE : host.number;
    }

    // ---- texts

    public int put(long characters) {
        return pad.append(characters);
    }

    public int wipe() {
        return pad.empty();
    }

    public int fault() {
        return reader.findFault();
    }

    public int carryOut() {
        if (reader.findFault() != NONE) {
            return BAD_TEXT;
        }
        history.prepare(archive);
        int done = 0;
        reader.begin();
        while (done < Pad.MOST && reader.readOrder() && obey() >= 0) {
            done++;
            reader.skipSemicolon();
        }
        pad.empty();
        return settled(done);
    }

    /** Carries out the order that was read last. */
    private int obey() {
        switch (reader.kind) {
            case 'r': return archive.accept(READS, reader.number, 1 + reader.more);
            case 'w': return archive.accept(WRITES, reader.number, 1 + reader.more);
            case 's': return serveSlips(reader.number);
            default: return archive.stand(reader.number);
        }
    }

    // ---- undo, saving

    public int undo() {
        if (history.kept == 0) {
            return NOT_POSSIBLE;
        }
        history.takeBack(archive);
        return history.kept;
    }

    public int save(int slot) {
        Slot place = slotAt(slot);
        if (place == null) {
            return BAD_VALUE;
        }
        place.state.copyFrom(archive);
        place.isFilled = true;
        return archive.slipsThatWait();
    }

    public int restore(int slot) {
        Slot place = slotAt(slot);
        if (place == null) {
            return BAD_VALUE;
        }
        if (!place.isFilled) {
            return NOT_POSSIBLE;
        }
        history.prepare(archive);
        archive.copyFrom(place.state);
        return settled(archive.slipsThatWait());
    }

    private Slot slotAt(int slot) {
        switch (slot) {
            case 0: return firstSlot;
            case 1: return secondSlot;
            default: return null;
        }
    }

    // ---- help for all

    private static boolean isSlip(int writes, int drawer, int many) {
        return (writes == READS || writes == WRITES)
            && drawer >= 0 && drawer <= LAST_DRAWER
            && many >= 1 && many <= MOST_DRAWERS
            && drawer + many - 1 <= LAST_DRAWER;
    }

    private static boolean isIndexOf(int[] row, int index) {
        return index >= 0 && index < row.length;
    }

    private static int valueAt(int[] row, int index) {
        return index >= 0 && index < row.length ? row[index] : 0;
    }

    private static void copyRow(int[] from, int[] to) {
        for (int i = 0; i < from.length && i < to.length; i++) {
            to[i] = from[i];
        }
    }

    /** A place for a slip that waits; it stands in a chain with all places of its archive and is used again. */
    private static final class Slip {
        private final Slip rest;
        private boolean waits;
        private int number;
        private int writes;
        private int first;
        private int many;
        private int came;
        private int joins;

        private Slip(Slip rest) {
            this.rest = rest;
        }

        private void copyFrom(Slip other) {
            waits = other.waits;
            number = other.number;
            writes = other.writes;
            first = other.first;
            many = other.many;
            came = other.came;
            joins = other.joins;
        }

        private int last() {
            return first + many - 1;
        }

        private boolean isOfSort(int sort) {
            return waits && writes == sort;
        }

        private boolean isAheadOf(Slip other) {
            return first < other.first || (first == other.first && number < other.number);
        }
    }

    /** The slips that were served lately, in rows that are written over from their start when they are full. */
    private static final class Lately {
        private static final int MOST = 20;

        private final int[] numbers = new int[MOST];
        private final int[] waits = new int[MOST];
        private final int[] sorts = new int[MOST];
        private int served;

        private void copyFrom(Lately other) {
            copyRow(other.numbers, numbers);
            copyRow(other.waits, waits);
            copyRow(other.sorts, sorts);
            served = other.served;
        }

        private void append(int number, int wait, int writes) {
            int place = served % MOST;
            if (isIndexOf(numbers, place) && isIndexOf(waits, place) && isIndexOf(sorts, place)) {
                numbers[place] = number;
                waits[place] = wait;
                sorts[place] = writes;
                served++;
            }
        }

        private boolean has(int ago) {
            return ago >= 0 && ago < MOST && ago < served;
        }

        private int numberOf(int ago) {
            return valueAt(numbers, place(ago));
        }

        private int waitOf(int ago) {
            return valueAt(waits, place(ago));
        }

        private int sortOf(int ago) {
            return valueAt(sorts, place(ago));
        }

        private int place(int ago) {
            return (served - 1 - ago) % MOST;
        }
    }

    /** All that undo and saving are about: the settings, the slips, the arm, the batches, and what was served. */
    private static final class Archive {
        private final int[] settings = new int[FIRST_VALUES.length];
        private final Slip places;
        private final Lately lately = new Lately();
        private int readsWaiting;
        private int writesWaiting;
        private int nextNumber;
        private int now;
        private int arm;
        private int longestWait;
        private int drawersGone;
        private int batches;
        private int batchSort;
        private int batchSlips;
        private int readsAhead;

        private Archive() {
            copyRow(FIRST_VALUES, settings);
            Slip chain = null;
            for (int i = 0; i < MOST_SLIPS; i++) {
                chain = new Slip(chain);
            }
            places = chain;
        }

        private void copyFrom(Archive other) {
            copyRow(other.settings, settings);
            Slip from = other.places;
            for (Slip to = places; to != null && from != null; to = to.rest) {
                to.copyFrom(from);
                from = from.rest;
            }
            lately.copyFrom(other.lately);
            readsWaiting = other.readsWaiting;
            writesWaiting = other.writesWaiting;
            nextNumber = other.nextNumber;
            now = other.now;
            arm = other.arm;
            longestWait = other.longestWait;
            drawersGone = other.drawersGone;
            batches = other.batches;
            batchSort = other.batchSort;
            batchSlips = other.batchSlips;
            readsAhead = other.readsAhead;
        }

        // ---- changes

        private int adjust(int setting, int value) {
            if (!isIndexOf(settings, setting)) {
                return BAD_VALUE;
            }
            if (value < valueAt(LEAST_VALUES, setting) || value > valueAt(MOST_VALUES, setting)) {
                return BAD_VALUE;
            }
            int previous = settings[setting];
            settings[setting] = value;
            return previous;
        }

        private int accept(int writes, int drawer, int many) {
            if (!isSlip(writes, drawer, many)) {
                return BAD_VALUE;
            }
            Slip host = hostFor(writes, drawer, many);
            if (host != null) {
                host.many += many;
                host.joins++;
                return host.number;
            }
            Slip place = freePlace();
            if (place == null) {
                return TOO_MANY;
            }
            place.waits = true;
            place.number = nextNumber;
            place.writes = writes;
            place.first = drawer;
            place.many = many;
            place.came = now;
            place.joins = 0;
            nextNumber++;
            countWaiting(writes, 1);
            return place.number;
        }

        private int tearUp(int number) {
            Slip slip = find(number);
            if (slip == null) {
                return NO_SUCH;
            }
            remove(slip);
            return age(slip);
        }

        private int stand(int minutes) {
            if (minutes < 1 || minutes > LONGEST_PASS) {
                return BAD_VALUE;
            }
            if (now + minutes > LAST_MINUTE) {
                return NOT_POSSIBLE;
            }
            now += minutes;
            return now;
        }

        private void remove(Slip slip) {
            slip.waits = false;
            countWaiting(slip.writes, -1);
        }

        private void countWaiting(int writes, int more) {
            if (writes == WRITES) {
                writesWaiting += more;
            } else {
                readsWaiting += more;
            }
        }

        // ---- what there is

        private int slipsThatWait() {
            return readsWaiting + writesWaiting;
        }

        private Slip find(int number) {
            for (Slip slip = places; slip != null; slip = slip.rest) {
                if (slip.waits && slip.number == number) {
                    return slip;
                }
            }
            return null;
        }

        private Slip freePlace() {
            for (Slip slip = places; slip != null; slip = slip.rest) {
                if (!slip.waits) {
                    return slip;
                }
            }
            return null;
        }

        /** The lowest slip with which such a one is joined; null if there is none. */
        private Slip hostFor(int writes, int drawer, int many) {
            Slip host = null;
            for (Slip slip = places; slip != null; slip = slip.rest) {
                boolean fits = slip.isOfSort(writes) && slip.last() + 1 == drawer && slip.many + many <= MOST_DRAWERS;
                if (fits && (host == null || slip.number < host.number)) {
                    host = slip;
                }
            }
            return host;
        }

        private Slip ranked(int writes, int rank) {
            for (Slip slip = places; slip != null; slip = slip.rest) {
                if (slip.isOfSort(writes) && slipsAheadOf(slip) == rank) {
                    return slip;
                }
            }
            return null;
        }

        private int slipsAheadOf(Slip behind) {
            int ahead = 0;
            for (Slip slip = places; slip != null; slip = slip.rest) {
                if (slip.isOfSort(behind.writes) && slip.isAheadOf(behind)) {
                    ahead++;
                }
            }
            return ahead;
        }

        private int age(Slip slip) {
            return now - slip.came;
        }

        private boolean isTooOld(Slip slip) {
            return age(slip) >= valueAt(settings, slip.writes == WRITES ? OLD_WRITE : OLD_READ);
        }

        private int amount(int what) {
            switch (what) {
                case 0: return now;
                case 1: return readsWaiting;
                case 2: return writesWaiting;
                case 3: return arm;
                case 4: return lately.served;
                case 5: return longestWait;
                case 6: return drawersGone;
                case 7: return batches;
                case 8: return batchSlips;
                case 9: return readsAhead;
                default: return isIndexOf(settings, what - 10) ? valueAt(settings, what - 10) : BAD_VALUE;
            }
        }

        // ---- serving

        /** Why the next slip is the next one, in the numbers of next(). */
        private int reason() {
            boolean hasRoom = batches > 0 && batchSlips < valueAt(settings, BATCH);
            if (hasRoom && leastFrom(batchSort, arm) != null) {
                return GOES_ON;
            }
            int sort = newSort();
            Slip oldest = oldest(sort);
            if (oldest != null && isTooOld(oldest)) {
                return TOO_OLD;
            }
            return leastFrom(sort, arm) != null ? AT_OR_ABOVE : FROM_LOWEST;
        }

        /** The next slip, when this is the reason; null if none waits. */
        private Slip chosen(int why) {
            switch (why) {
                case GOES_ON: return leastFrom(batchSort, arm);
                case TOO_OLD: return oldest(newSort());
                case AT_OR_ABOVE: return leastFrom(newSort(), arm);
                default: return leastFrom(newSort(), 0);
            }
        }

        /** The sort of a new batch. */
        private int newSort() {
            if (writesWaiting == 0) {
                return READS;
            }
            if (readsWaiting == 0) {
                return WRITES;
            }
            return readsAhead >= valueAt(settings, STARVE) ? WRITES : READS;
        }

        /** The oldest slip of a sort: numbers follow the order of coming, so it is the one with the lowest number. */
        private Slip oldest(int sort) {
            Slip oldest = null;
            for (Slip slip = places; slip != null; slip = slip.rest) {
                if (slip.isOfSort(sort) && (oldest == null || slip.number < oldest.number)) {
                    oldest = slip;
                }
            }
            return oldest;
        }

        /** The slip of a sort with the least first drawer that is not below this one. */
        private Slip leastFrom(int sort, int drawer) {
            Slip least = null;
            for (Slip slip = places; slip != null; slip = slip.rest) {
                if (slip.isOfSort(sort) && slip.first >= drawer && (least == null || slip.isAheadOf(least))) {
                    least = slip;
                }
            }
            return least;
        }

        private int drawersTo(Slip slip) {
            return Math.abs(slip.first - arm);
        }

        private int minutesFor(Slip slip) {
            return drawersTo(slip) * valueAt(settings, MOVE) + slip.many * valueAt(settings, SERVE);
        }

        private void serveNext() {
            int why = reason();
            Slip slip = chosen(why);
            if (slip == null) {
                return;
            }
            if (why != GOES_ON) {
                beginBatch(slip.writes);
            }
            batchSlips++;
            now += minutesFor(slip);
            drawersGone += drawersTo(slip);
            arm = Math.min(slip.last() + 1, LAST_DRAWER);
            remove(slip);
            longestWait = Math.max(longestWait, age(slip));
            lately.append(slip.number, age(slip), slip.writes);
        }

        private void beginBatch(int sort) {
            batches++;
            batchSort = sort;
            batchSlips = 0;
            if (sort == WRITES) {
                readsAhead = 0;
            } else if (writesWaiting > 0) {
                readsAhead++;
            }
        }
    }

    /** The states before the latest changes, in a ring of archives that are written over. */
    private static final class History {
        private static final int MOST = 6;
        /** One more than is kept: a state is put down before it is known whether its change is an error. */
        private static final int PLACES = MOST + 1;

        private final Archive[] states = new Archive[PLACES];
        private int place;
        private int kept;

        private History() {
            for (int i = 0; i < states.length; i++) {
                states[i] = new Archive();
            }
        }

        private Archive stateAt(int index) {
            return index >= 0 && index < states.length ? states[index] : null;
        }

        /** Puts a state down; it is dropped again if keep() does not follow. */
        private void prepare(Archive archive) {
            Archive state = stateAt(place);
            if (state != null) {
                state.copyFrom(archive);
            }
        }

        private void keep() {
            place = (place + 1) % PLACES;
            kept = Math.min(kept + 1, MOST);
        }

        private void takeBack(Archive archive) {
            place = (place + PLACES - 1) % PLACES;
            kept--;
            Archive state = stateAt(place);
            if (state != null) {
                archive.copyFrom(state);
            }
        }
    }

    private static final class Slot {
        private final Archive state = new Archive();
        private boolean isFilled;
    }

    private static final class Pad {
        private static final int MOST = 80;
        private static final int FIRST_SIGN = 33, LAST_SIGN = 126;
        private static final int MOST_AT_ONCE = 8, BITS = 8, SIGN_MASK = 255;

        private final int[] signs = new int[MOST];
        private int length;

        /** The sign at an index; 0, which is no sign of a text, if there is none. */
        private int signAt(int index) {
            return index < length ? valueAt(signs, index) : 0;
        }

        private int append(long characters) {
            int many = signsIn(characters);
            if (many == 0) {
                return BAD_VALUE;
            }
            if (length + many > MOST) {
                return TOO_MANY;
            }
            for (int i = many - 1; i >= 0; i--) {
                add((int) (characters >>> (i * BITS)) & SIGN_MASK);
            }
            return length;
        }

        /** How many characters the number gives; 0 if there is none, or one of them cannot be. */
        private static int signsIn(long characters) {
            int many = 0;
            long rest = characters;
            while (rest != 0 && many < MOST_AT_ONCE) {
                int sign = (int) rest & SIGN_MASK;
                if (sign < FIRST_SIGN || sign > LAST_SIGN) {
                    return 0;
                }
                many++;
                rest = rest >>> BITS;
            }
            return many;
        }

        private void add(int sign) {
            if (isIndexOf(signs, length)) {
                signs[length] = sign;
                length++;
            }
        }

        private int empty() {
            int previous = length;
            length = 0;
            return previous;
        }
    }

    /** Reads the pad's orders from left to right, and stands at the first character that cannot be read. */
    private static final class Reader {
        private final Pad pad;
        private int at;
        private int kind;
        private int number;
        private int more;

        private Reader(Pad pad) {
            this.pad = pad;
        }

        private void begin() {
            at = 0;
        }

        private int findFault() {
            begin();
            boolean isRead = readOrder();
            for (int orders = 1; orders < Pad.MOST && isRead && pad.signAt(at) == ';'; orders++) {
                skipSemicolon();
                isRead = readOrder();
            }
            return isRead && at == pad.length ? NONE : at;
        }

        private void skipSemicolon() {
            at++;
        }

        private boolean readOrder() {
            kind = pad.signAt(at);
            more = 0;
            boolean isSlip = kind == 'r' || kind == 'w';
            if (!isSlip && kind != 's' && kind != 't') {
                return false;
            }
            at++;
            if (!readNumber()) {
                return false;
            }
            return !isSlip || pad.signAt(at) != '+' || readMore();
        }

        private boolean readNumber() {
            if (!isDigitNext()) {
                return false;
            }
            number = takeDigit();
            if (number != 0 && isDigitNext()) {
                number = number * 10 + takeDigit();
            }
            return true;
        }

        private boolean readMore() {
            at++;
            if (!isDigitNext()) {
                return false;
            }
            more = takeDigit();
            return true;
        }

        private boolean isDigitNext() {
            int sign = pad.signAt(at);
            return sign >= '0' && sign <= '9';
        }

        private int takeDigit() {
            int digit = pad.signAt(at) - '0';
            at++;
            return digit;
        }
    }
}
