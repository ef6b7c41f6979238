import java.util.ArrayDeque;
import java.util.ArrayList;
import java.util.Comparator;
import java.util.Deque;
import java.util.List;
import java.util.regex.Matcher;
import java.util.regex.Pattern;

/** A second program of the same document, as plain as can be: states are copied whole, and nothing is kept short. */
final class Model {
    private static final int NO_SUCH = -1, BAD_VALUE = -2, BAD_TEXT = -3, TOO_MANY = -4, NOT_POSSIBLE = -5, NONE = -6;
    private static final String NUMBER = "(?:0|[1-9][0-9]?)";
    private static final String ORDER = "(?:[rw]" + NUMBER + "(?:\\+[0-9])?|[st]" + NUMBER + ")";
    private static final Pattern TEXT = Pattern.compile(ORDER + "(?:;" + ORDER + ")*");
    private static final int[][] RANGES = {{1, 999}, {1, 999}, {1, 16}, {1, 9}, {0, 9}, {1, 20}};

    private record Request(int number, int sort, int first, int last, int came, int joins) {
        int many() {
            return last - first + 1;
        }
    }

    private record Served(int number, int waited, int sort) { }

    private record Choice(Request request, int why) { }

    private static final class State {
        int[] settings = {50, 200, 4, 2, 1, 2};
        List<Request> requests = new ArrayList<>();
        List<Served> served = new ArrayList<>();
        int numbers, now, arm, travelled, batches, inBatch, ahead, batchSort = -1;

        State copy() {
            State other = new State();
            other.settings = settings.clone();
            other.requests = new ArrayList<>(requests);
            other.served = new ArrayList<>(served);
            other.numbers = numbers;
            other.now = now;
            other.arm = arm;
            other.travelled = travelled;
            other.batches = batches;
            other.inBatch = inBatch;
            other.ahead = ahead;
            other.batchSort = batchSort;
            return other;
        }

        List<Request> ofSort(int sort) {
            return requests.stream().filter(r -> r.sort == sort)
                .sorted(Comparator.comparingInt(Request::first).thenComparingInt(Request::number)).toList();
        }

        Request find(int number) {
            return requests.stream().filter(r -> r.number == number).findFirst().orElse(null);
        }

        boolean tooOld(Request r) {
            return now - r.came >= settings[r.sort];
        }

        Choice choice() {
            if (requests.isEmpty()) {
                return null;
            }
            if (batchSort >= 0 && inBatch < settings[2]) {
                for (Request r : ofSort(batchSort)) {
                    if (r.first >= arm) {
                        return new Choice(r, 0);
                    }
                }
            }
            int sort = ofSort(0).isEmpty() || (!ofSort(1).isEmpty() && ahead >= settings[3]) ? 1 : 0;
            List<Request> sorted = ofSort(sort);
            Request oldest = sorted.stream()
                .min(Comparator.comparingInt(Request::came).thenComparingInt(Request::number)).get();
            if (tooOld(oldest)) {
                return new Choice(oldest, 1);
            }
            for (Request r : sorted) {
                if (r.first >= arm) {
                    return new Choice(r, 2);
                }
            }
            return new Choice(sorted.get(0), 3);
        }

        Served serveOne() {
            Choice choice = choice();
            Request r = choice.request;
            if (choice.why != 0) {
                batches++;
                inBatch = 0;
                batchSort = r.sort;
                if (r.sort == 1) {
                    ahead = 0;
                } else if (!ofSort(1).isEmpty()) {
                    ahead++;
                }
            }
            inBatch++;
            int way = Math.max(r.first, arm) - Math.min(r.first, arm);
            travelled += way;
            now += way * settings[4] + r.many() * settings[5];
            arm = r.last == 99 ? 99 : r.last + 1;
            requests.remove(r);
            Served entry = new Served(r.number, now - r.came, r.sort);
            served.add(entry);
            return entry;
        }

        int longestWait() {
            return served.stream().mapToInt(Served::waited).max().orElse(0);
        }
    }

    private State state = new State();
    private final Deque<State> history = new ArrayDeque<>();
    private final State[] slots = new State[2];
    private String pad = "";

    private int changed(State before, int answer) {
        if (answer >= 0) {
            history.addLast(before);
            if (history.size() > 6) {
                history.removeFirst();
            }
        }
        return answer;
    }

    int set(int setting, int value) {
        if (setting < 0 || setting > 5 || value < RANGES[setting][0] || value > RANGES[setting][1]) {
            return BAD_VALUE;
        }
        State before = state.copy();
        int previous = state.settings[setting];
        state.settings[setting] = value;
        return changed(before, previous);
    }

    int slip(int writes, int drawer, int many) {
        State before = state.copy();
        return changed(before, come(writes, drawer, many));
    }

    private int come(int writes, int drawer, int many) {
        int host = joined(writes, drawer, many);
        if (host == BAD_VALUE) {
            return BAD_VALUE;
        }
        if (host >= 0) {
            Request old = state.find(host);
            state.requests.remove(old);
            state.requests.add(
                new Request(old.number, old.sort, old.first, old.last + many, old.came, old.joins + 1));
            return host;
        }
        if (state.requests.size() >= 30) {
            return TOO_MANY;
        }
        state.requests.add(new Request(state.numbers, writes, drawer, drawer + many - 1, state.now, 0));
        return state.numbers++;
    }

    int tear(int slip) {
        Request found = state.find(slip);
        if (found == null) {
            return NO_SUCH;
        }
        State before = state.copy();
        state.requests.remove(found);
        return changed(before, state.now - found.came);
    }

    int serve(int many) {
        State before = state.copy();
        return changed(before, serveThem(many));
    }

    private int serveThem(int many) {
        if (many < 1 || many > 30) {
            return BAD_VALUE;
        }
        State after = state.copy();
        int served = 0;
        while (served < many && !after.requests.isEmpty()) {
            after.serveOne();
            served++;
        }
        if (served == 0 || after.now > 99999) {
            return NOT_POSSIBLE;
        }
        state = after;
        return served;
    }

    int pass(int minutes) {
        State before = state.copy();
        return changed(before, stand(minutes));
    }

    private int stand(int minutes) {
        if (minutes < 1 || minutes > 999) {
            return BAD_VALUE;
        }
        if (state.now + minutes > 99999) {
            return NOT_POSSIBLE;
        }
        return state.now += minutes;
    }

    int of(int slip, int what) {
        Request r = state.find(slip);
        if (r == null) {
            return NO_SUCH;
        }
        int[] answers = {r.sort, r.first, r.last, state.now - r.came, state.tooOld(r) ? 1 : 0, r.joins};
        return what < 0 || what > 5 ? BAD_VALUE : answers[what];
    }

    int waiting(int writes, int rank) {
        if (writes < 0 || writes > 1) {
            return BAD_VALUE;
        }
        List<Request> sorted = state.ofSort(writes);
        return rank < 0 || rank >= sorted.size() ? NO_SUCH : sorted.get(rank).number;
    }

    int log(int ago, int what) {
        if (ago < 0 || ago >= 20 || ago >= state.served.size()) {
            return NO_SUCH;
        }
        Served entry = state.served.get(state.served.size() - 1 - ago);
        int[] answers = {entry.number, entry.waited, entry.sort};
        return what < 0 || what > 2 ? BAD_VALUE : answers[what];
    }

    int count(int what) {
        State s = state;
        int[] answers = {
            s.now, s.ofSort(0).size(), s.ofSort(1).size(), s.arm, s.served.size(), s.longestWait(), s.travelled,
            s.batches, s.inBatch, s.ahead, s.settings[0], s.settings[1], s.settings[2], s.settings[3], s.settings[4],
            s.settings[5], pad.length(), history.size()
        };
        return what < 0 || what >= answers.length ? BAD_VALUE : answers[what];
    }

    int next(int what) {
        if (what < 0 || what > 2) {
            return BAD_VALUE;
        }
        Choice choice = state.choice();
        if (choice == null) {
            return NONE;
        }
        State after = state.copy();
        after.serveOne();
        return new int[] {choice.request.number, choice.why, after.now}[what];
    }

    int servedIn(int slip) {
        if (state.find(slip) == null) {
            return NO_SUCH;
        }
        State after = state.copy();
        while (after.serveOne().number != slip) {
            continue;
        }
        return after.now - state.now;
    }

    int all(int what) {
        if (what < 0 || what > 2) {
            return BAD_VALUE;
        }
        if (state.requests.isEmpty()) {
            return NONE;
        }
        State after = state.copy();
        int longest = 0;
        while (!after.requests.isEmpty()) {
            longest = Math.max(longest, after.serveOne().waited);
        }
        return new int[] {after.now - state.now, after.travelled - state.travelled, longest}[what];
    }

    int joined(int writes, int drawer, int many) {
        if (writes < 0 || writes > 1 || drawer < 0 || drawer > 99 || many < 1 || many > 9 || drawer + many > 100) {
            return BAD_VALUE;
        }
        return state.requests.stream()
            .filter(r -> r.sort == writes && r.last == drawer - 1 && r.many() + many <= 9)
            .mapToInt(Request::number).min().orElse(NONE);
    }

    int put(long characters) {
        StringBuilder text = new StringBuilder();
        boolean ended = false;
        for (int i = 0; i < 8; i++) {
            int code = (int) (characters >>> (8 * i)) & 255;
            if (code == 0) {
                ended = true;
            } else if (ended || code < 33 || code > 126) {
                return BAD_VALUE;
            } else {
                text.insert(0, (char) code);
            }
        }
        if (text.isEmpty()) {
            return BAD_VALUE;
        }
        if (pad.length() + text.length() > 80) {
            return TOO_MANY;
        }
        pad += text;
        return pad.length();
    }

    int wipe() {
        int length = pad.length();
        pad = "";
        return length;
    }

    int fault() {
        for (int length = 1; length <= pad.length(); length++) {
            Matcher matcher = TEXT.matcher(pad.substring(0, length));
            if (!matcher.matches() && !matcher.hitEnd()) {
                return length - 1;
            }
        }
        return TEXT.matcher(pad).matches() ? NONE : pad.length();
    }

    int carryOut() {
        if (fault() != NONE) {
            return BAD_TEXT;
        }
        State before = state.copy();
        int done = 0;
        for (String order : pad.split(";")) {
            if (obey(order) < 0) {
                break;
            }
            done++;
        }
        pad = "";
        return changed(before, done);
    }

    private int obey(String order) {
        String[] parts = order.substring(1).split("\\+");
        int number = Integer.parseInt(parts[0]);
        int more = parts.length > 1 ? Integer.parseInt(parts[1]) : 0;
        return switch (order.charAt(0)) {
            case 'r' -> come(0, number, more + 1);
            case 'w' -> come(1, number, more + 1);
            case 's' -> serveThem(number);
            default -> stand(number);
        };
    }

    int undo() {
        if (history.isEmpty()) {
            return NOT_POSSIBLE;
        }
        state = history.removeLast();
        return history.size();
    }

    int save(int slot) {
        if (slot < 0 || slot > 1) {
            return BAD_VALUE;
        }
        slots[slot] = state.copy();
        return state.requests.size();
    }

    int restore(int slot) {
        if (slot < 0 || slot > 1) {
            return BAD_VALUE;
        }
        if (slots[slot] == null) {
            return NOT_POSSIBLE;
        }
        State before = state;
        state = slots[slot].copy();
        return changed(before, state.requests.size());
    }
}
