import java.util.ArrayList;
import java.util.Arrays;
import java.util.HashSet;
import java.util.LinkedHashMap;
import java.util.List;
import java.util.Map;
import java.util.Set;
import java.util.TreeSet;

/** The document once more, as plainly and as unlike the class as can be, to be compared with it. */
final class PlainCouncil {

    /** An hour's state: for each room what it keeps, got from the left, got from the right. */
    static final class State {
        int hour;
        int bell;
        int[] keeps;
        int[] gotLeft;
        int[] gotRight;

        State copy() {
            State other = new State();
            other.hour = hour;
            other.bell = bell;
            other.keeps = keeps.clone();
            other.gotLeft = gotLeft.clone();
            other.gotRight = gotRight.clone();
            return other;
        }

        String key() {
            return Arrays.toString(keeps) + Arrays.toString(gotLeft) + Arrays.toString(gotRight) + bell;
        }
    }

    /** One who does something by choice: {room, left, right, pull}. */
    static final class Reached {
        final State state;
        final Reached from;
        final List<int[]> did;

        Reached(State state, Reached from, List<int[]> did) {
            this.state = state;
            this.from = from;
            this.did = did;
        }
    }

    static final class Told {
        int[] kinds;
        int[] firsts;
        boolean[] stuck;
        int[][] lies;
        Set<Integer> barred = new TreeSet<>();
        List<String> texts = new ArrayList<>();
        int ruling = -1;
        State state;
        List<State> past = new ArrayList<>();
        List<int[]> heard = new ArrayList<>();
        int heardRoom = -1;

        Told copy() {
            Told other = new Told();
            other.kinds = kinds.clone();
            other.firsts = firsts.clone();
            other.stuck = stuck.clone();
            other.lies = new int[lies.length][];
            for (int i = 0; i < lies.length; i++) {
                other.lies[i] = lies[i].clone();
            }
            other.barred.addAll(barred);
            other.texts.addAll(texts);
            other.ruling = ruling;
            other.state = state.copy();
            other.past.addAll(past);
            other.heard.addAll(heard);
            other.heardRoom = heardRoom;
            return other;
        }
    }

    private final int rooms;
    private Told now = new Told();
    private Told image;
    private String tape = "";
    private int[] fault = {-1, -1};
    private String latestAsked = "";
    private List<Reached> latestRuns;

    PlainCouncil(int asked) {
        rooms = Math.max(3, Math.min(9, asked));
        now.kinds = new int[rooms];
        now.firsts = new int[rooms];
        now.stuck = new boolean[rooms];
        now.lies = new int[rooms][];
        for (int i = 0; i < rooms; i++) {
            now.lies[i] = new int[] {-1, -1, 0};
        }
        now.state = first(now);
        image = now.copy();
    }

    private State first(Told told) {
        State state = new State();
        state.keeps = told.firsts.clone();
        state.gotLeft = new int[rooms];
        state.gotRight = new int[rooms];
        Arrays.fill(state.gotLeft, -1);
        Arrays.fill(state.gotRight, -1);
        return state;
    }

    private boolean in(int value, int least, int most) {
        return value >= least && value <= most;
    }

    private List<Integer> values(Told told, State s, int room, String clause) {
        if (told.ruling == -1) {
            return new ArrayList<>();
        }
        return PlainTexts.values(told.texts.get(told.ruling), clause, room, s.keeps[room], s.gotLeft[room],
            s.gotRight[room], s.bell, s.hour, told.firsts[room], rooms);
    }

    private int word(Told told, State s, int room) {
        List<Integer> words = values(told, s, room, "word");
        int word = words.isEmpty() ? s.keeps[room] : words.get(0);
        return Math.max(0, Math.min(9, word));
    }

    private boolean agreed(Told told, State s) {
        Set<Integer> words = new HashSet<>();
        for (int room = 0; room < rooms; room++) {
            if (told.kinds[room] == 0) {
                words.add(word(told, s, room));
            }
        }
        return words.size() < 2;
    }

    /** The hour behind a state; the chosen do as they choose, other liars as they lie. */
    private State step(Told told, State s, List<int[]> chosen) {
        State next = first(told);
        next.hour = s.hour + 1;
        for (int room = 0; room < rooms; room++) {
            next.keeps[room] = s.keeps[room];
            int left = -1;
            int right = -1;
            boolean pull = false;
            if (told.kinds[room] == 1) {
                int[] does = told.lies[room];
                for (int[] choice : chosen) {
                    does = choice[0] == room ? Arrays.copyOfRange(choice, 1, 4) : does;
                }
                left = does[0];
                right = does[1];
                pull = does[2] == 1;
            } else if (told.kinds[room] == 0) {
                for (int value : values(told, s, room, "keep")) {
                    next.keeps[room] = Math.max(0, Math.min(99, value));
                }
                for (int value : values(told, s, room, "left")) {
                    left = value < 0 ? -1 : Math.min(99, value);
                }
                for (int value : values(told, s, room, "right")) {
                    right = value < 0 ? -1 : Math.min(99, value);
                }
                pull = values(told, s, room, "rope").contains(1);
            }
            next.gotLeft[(room + 1) % rooms] = told.barred.contains(right) ? -1 : right;
            next.gotRight[(room + rooms - 1) % rooms] = told.barred.contains(left) ? -1 : left;
            next.bell += pull && !told.stuck[room] ? 1 : 0;
        }
        return next;
    }

    private State step(Told told, State s) {
        return step(told, s, new ArrayList<>());
    }

    private List<List<int[]>> choices(Told told, int v) {
        List<List<int[]>> all = new ArrayList<>();
        all.add(new ArrayList<>());
        for (int room = 0; room < rooms; room++) {
            if (told.kinds[room] != 1) {
                continue;
            }
            List<List<int[]>> longer = new ArrayList<>();
            for (List<int[]> ahead : all) {
                for (int left = -1; left <= v; left++) {
                    for (int right = -1; right <= v; right++) {
                        for (int pull = 0; pull < 2; pull++) {
                            List<int[]> one = new ArrayList<>(ahead);
                            one.add(new int[] {room, left, right, pull});
                            longer.add(one);
                        }
                    }
                }
            }
            all = longer;
        }
        return all;
    }

    /** The states of the last hour, or null if there were too many in one. */
    private List<Reached> allRuns(Told told, int n, int v, List<int[]> heard, int heardRoom) {
        List<Reached> ahead = new ArrayList<>();
        ahead.add(new Reached(first(told), null, null));
        List<List<int[]>> choices = choices(told, v);
        for (int hour = 1; hour <= n; hour++) {
            Map<String, Reached> found = new LinkedHashMap<>();
            for (Reached from : ahead) {
                State quiet = null;
                for (List<int[]> choice : choices) {
                    // The sound ones don't see the hour's lies, so one working serves all choices.
                    quiet = quiet == null ? step(told, from.state, choice) : quiet;
                    State next = withChoice(told, quiet, from.state, choice);
                    if (heard != null && (next.gotLeft[heardRoom] != heard.get(hour - 1)[0]
                        || next.gotRight[heardRoom] != heard.get(hour - 1)[1])) {
                        continue;
                    }
                    found.putIfAbsent(next.key(), new Reached(next, from, choice));
                    if (found.size() > 2000) {
                        return null;
                    }
                }
            }
            ahead = new ArrayList<>(found.values());
        }
        return ahead;
    }

    /** The first choice is none, none, not: so the quiet state lacks just what is chosen. */
    private State withChoice(Told told, State quiet, State from, List<int[]> choice) {
        State next = quiet.copy();
        for (int[] does : choice) {
            int room = does[0];
            next.gotLeft[(room + 1) % rooms] = told.barred.contains(does[2]) ? -1 : does[2];
            next.gotRight[(room + rooms - 1) % rooms] = told.barred.contains(does[1]) ? -1 : does[1];
            next.bell += does[3] == 1 && !told.stuck[room] ? 1 : 0;
        }
        return next;
    }

    boolean elder(int room, int kind, int first) {
        if (!in(room, 0, rooms - 1) || !in(kind, 0, 2) || !in(first, 0, 9)) {
            return false;
        }
        now.kinds[room] = kind;
        now.firsts[room] = first;
        return true;
    }

    boolean stuck(int room, boolean is) {
        if (!in(room, 0, rooms - 1)) {
            return false;
        }
        now.stuck[room] = is;
        return true;
    }

    boolean lies(int room, int left, int right, boolean pulls) {
        if (!in(room, 0, rooms - 1) || !in(left, -1, 99) || !in(right, -1, 99)) {
            return false;
        }
        now.lies[room] = new int[] {left, right, pulls ? 1 : 0};
        return true;
    }

    boolean bar(int note, boolean is) {
        if (!in(note, 0, 99)) {
            return false;
        }
        if (is) {
            now.barred.add(note);
        } else {
            now.barred.remove(note);
        }
        return true;
    }

    int feed(int... words) {
        if (tape.length() > 280) {
            return -1;
        }
        for (int word : words) {
            for (int i = 0; i < 4; i++) {
                tape += (char) (word >>> 24 - 8 * i & 255);
            }
        }
        return tape.length();
    }

    int end(int n) {
        if (!in(n, 0, tape.length())) {
            return -1;
        }
        tape = tape.substring(0, n);
        return n;
    }

    int text() {
        if (now.texts.size() == 4) {
            return -1;
        }
        fault = PlainTexts.fault(tape);
        String text = tape;
        tape = "";
        if (fault[0] != 0) {
            return -1;
        }
        now.texts.add(text);
        return now.texts.size() - 1;
    }

    int fault(int what) {
        return in(what, 0, 1) ? fault[what] : -1;
    }

    boolean by(int text) {
        if (!in(text, -1, now.texts.size() - 1)) {
            return false;
        }
        now.ruling = text;
        return true;
    }

    int start() {
        int gone = now.state.hour;
        now.state = first(now);
        now.past.clear();
        return gone;
    }

    int hours(int n) {
        if (!in(n, 1, 99) || now.state.hour + n > 999) {
            return -1;
        }
        for (int i = 0; i < n; i++) {
            now.past.add(now.state);
            now.state = step(now, now.state);
            if (now.past.size() > 40) {
                now.past.remove(0);
            }
        }
        return now.state.hour;
    }

    int undo() {
        if (now.past.isEmpty()) {
            return -1;
        }
        now.state = now.past.remove(now.past.size() - 1);
        return now.state.hour;
    }

    int of(int room, int what) {
        if (!in(room, 0, rooms - 1) || !in(what, 0, 6)) {
            return -2;
        }
        return new int[] {now.state.keeps[room], now.state.gotLeft[room], now.state.gotRight[room],
            word(now, now.state, room), now.kinds[room], now.firsts[room], now.stuck[room] ? 1 : 0}[what];
    }

    boolean agree() {
        return agreed(now, now.state);
    }

    int agrees(int what) {
        if (!in(what, 0, 1)) {
            return -1;
        }
        List<State> run = new ArrayList<>();
        run.add(first(now));
        for (int hour = 1; hour <= 40; hour++) {
            run.add(step(now, run.get(hour - 1)));
        }
        int since = 41;
        while (since > 0 && agreed(now, run.get(since - 1))) {
            since--;
        }
        int notes = 0;
        for (State state : run.subList(0, Math.min(41, since + 1))) {
            for (int room = 0; room < rooms; room++) {
                notes += (state.gotLeft[room] >= 0 ? 1 : 0) + (state.gotRight[room] >= 0 ? 1 : 0);
            }
        }
        return since == 41 ? -1 : what == 0 ? since : notes;
    }

    private boolean asked(int n, int v) {
        return in(n, 0, 6) && in(v, 0, 2) && Arrays.stream(now.kinds).filter(kind -> kind == 1).count() <= 2;
    }

    /** Of runs that were gone through for the call ahead, nothing is worked again. */
    private List<Reached> runs(int n, int v) {
        String asked = Arrays.toString(now.kinds) + Arrays.toString(now.firsts) + Arrays.toString(now.stuck)
            + now.barred + now.texts + now.ruling + " " + n + " " + v;
        if (!asked.equals(latestAsked)) {
            latestRuns = allRuns(now, n, v, null, 0);
            latestAsked = asked;
        }
        return latestRuns;
    }

    int holds(int n, int v) {
        if (!asked(n, v)) {
            return -1;
        }
        List<Reached> all = runs(n, v);
        return all == null ? -2 : all.stream().allMatch(one -> agreed(now, one.state)) ? 1 : 0;
    }

    int states(int n, int v) {
        if (!asked(n, v)) {
            return -1;
        }
        List<Reached> all = runs(n, v);
        return all == null ? -2 : all.size();
    }

    int bad(int n, int v, int i, int liar, int what) {
        if (!asked(n, v) || !in(i, 0, n - 1) || !in(what, 0, 2) || liar < 0
            || liar >= Arrays.stream(now.kinds).filter(kind -> kind == 1).count()) {
            return -3;
        }
        List<Reached> all = runs(n, v);
        if (all == null) {
            return -2;
        }
        for (Reached one : all) {
            if (!agreed(now, one.state)) {
                Reached at = one;
                while (at.state.hour > i + 1) {
                    at = at.from;
                }
                return at.did.get(liar)[what + 1];
            }
        }
        return -3;
    }

    int told(int room, int left, int right) {
        if (!in(room, 0, rooms - 1) || !in(left, -1, 99) || !in(right, -1, 99)) {
            return -1;
        }
        if (room != now.heardRoom) {
            now.heard.clear();
        }
        if (now.heard.size() == 8) {
            return -1;
        }
        now.heardRoom = room;
        now.heard.add(new int[] {left, right});
        return now.heard.size();
    }

    int forget() {
        int were = now.heard.size();
        now.heard.clear();
        now.heardRoom = -1;
        return were;
    }

    int suspects(int v) {
        if (!in(v, 0, 2) || now.heard.isEmpty()) {
            return -1;
        }
        int answer = 0;
        for (int suspect = -1; suspect < rooms; suspect++) {
            Told told = now.copy();
            for (int room = 0; room < rooms; room++) {
                told.kinds[room] = room == suspect ? 1 : told.kinds[room] == 1 ? 0 : told.kinds[room];
            }
            if (suspect == now.heardRoom) {
                continue;
            }
            List<Reached> fitting = allRuns(told, now.heard.size(), v, now.heard, now.heardRoom);
            if (fitting == null || !fitting.isEmpty()) {
                answer += suspect == -1 ? 512 : 1 << suspect;
            }
        }
        return answer;
    }

    int slips(int n, int room, int word, int i) {
        if (!in(n, 1, 20) || !in(room, 0, rooms - 1) || !in(word, 0, 9) || i < -1) {
            return -1;
        }
        List<Integer> found = new ArrayList<>();
        State main = first(now);
        for (int hour = 0; hour < n; hour++) {
            main = step(now, main);
            for (int writer = 0; writer < rooms; writer++) {
                for (int side = 0; side < 2; side++) {
                    State other = main.copy();
                    int[] got = side == 0 ? other.gotRight : other.gotLeft;
                    int reader = (writer + (side == 0 ? rooms - 1 : 1)) % rooms;
                    if (got[reader] == -1) {
                        continue;
                    }
                    got[reader] = (got[reader] + 1) % 100;
                    while (other.hour < n) {
                        other = step(now, other);
                    }
                    if (word(now, other, room) == word) {
                        found.add(100 * hour + 10 * writer + side);
                    }
                }
            }
        }
        return i == -1 ? found.size() : i < found.size() ? found.get(i) : -1;
    }

    int learns(int slot, int n, int room) {
        if (!in(slot, 0, rooms - 1) || !in(n, 0, 20) || !in(room, 0, rooms - 1)) {
            return -1;
        }
        Set<String> rows = new HashSet<>();
        for (int first = 0; first < 10; first++) {
            Told told = now.copy();
            told.firsts[room] = first;
            State state = first(told);
            StringBuilder row = new StringBuilder();
            for (int hour = 0; hour < n; hour++) {
                state = step(told, state);
                row.append(state.gotRight[slot]).append(',').append(state.gotLeft[(slot + 1) % rooms]).append(';');
            }
            rows.add(row.toString());
        }
        return rows.size();
    }

    int image() {
        image = now.copy();
        return now.state.hour;
    }

    int back() {
        now = image.copy();
        return now.state.hour;
    }

    int about(int what) {
        switch (what) {
            case 0: return rooms;
            case 1: return now.state.hour;
            case 2: return now.state.bell;
            case 3: return now.texts.size();
            case 4: return now.ruling;
            case 5: return now.past.size();
            case 6: return now.heard.size();
            case 7: return now.heard.isEmpty() ? -1 : now.heardRoom;
            case 8: return tape.length();
            case 9: return now.barred.size();
            default: return -2;
        }
    }
}
