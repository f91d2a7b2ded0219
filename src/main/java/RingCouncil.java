/**
 * A council in a ring of rooms. What each member promises stands in the document; the classes
 * inside are, in their order: what was read (Tape, Text), what was told (Elders, Heard), where the
 * council stands (Moment, Past, Whole), how an hour is worked (Hall), and what is tried (Tries,
 * Found, Runs). All rows are made once, in the constructor, because a run's memory is counted.
 */
public final class RingCouncil {

    public static final int NONE = -1;
    public static final int SPENT = -2;

    private static final int NOT_ASKED = -2;
    private static final int NO_RUN = -3;

    private static final int LEAST_ROOMS = 3;
    private static final int MOST_ROOMS = 9;
    private static final int LAST_HOUR = 999;
    private static final int MOST_HOURS_A_CALL = 99;
    private static final int MOST_TEXTS = 4;
    private static final int MOST_BYTES = 300;
    private static final int FEED_BYTES = 20;
    private static final int MOST_CLAUSES = 12;
    private static final int MOST_OPEN = 8;
    private static final int MOST_NUMBER = 9999;
    private static final int MOST_VALUE = 1000000;
    private static final int MOST_NOTE = 99;
    private static final int MOST_WORD = 9;
    private static final int MOST_PAST = 40;
    private static final int MOST_TRIED = 40;
    private static final int MOST_HEARD = 8;
    private static final int MOST_RUN_HOURS = 6;
    private static final int MOST_RUN_NOTE = 2;
    private static final int MOST_LIARS = 2;
    // Two liars, each with none or 3 notes to a side, and a rope.
    private static final int MOST_DOINGS = 1024;
    private static final int MOST_STATES = 2000;
    private static final int MOST_WATCHED = 20;
    private static final int NOBODY_LIES = 512;

    private static final int SOUND = 0;
    private static final int LIAR = 1;
    private static final int SLEEPER = 2;

    private final int rooms;
    private final Text[] texts;
    private final Tape tape;
    private final Hall hall;
    private final Tries tries;
    private final Runs runs;
    private final Elders tried;
    private final Heard nothingHeard;
    private final Whole now;
    private final Whole kept;
    private int faultKind;
    private int faultPlace;

    public RingCouncil(int rooms) {
        this.rooms = bounded(rooms, LEAST_ROOMS, MOST_ROOMS);
        texts = new Text[MOST_TEXTS];
        for (int i = 0; i < MOST_TEXTS; i++) {
            texts[i] = new Text();
        }
        tape = new Tape();
        hall = new Hall(this.rooms, texts);
        tries = new Tries(this.rooms, hall);
        runs = new Runs(this.rooms, hall);
        tried = new Elders(this.rooms);
        nothingHeard = new Heard();
        now = new Whole(this.rooms);
        kept = new Whole(this.rooms);
        faultKind = NONE;
        faultPlace = NONE;
    }

    public boolean elder(int room, int kind, int first) {
        if (!isRoom(room) || !isWithin(kind, SOUND, SLEEPER) || !isWithin(first, 0, MOST_WORD)) {
            return false;
        }
        now.elders.kinds[room] = kind;
        now.elders.firsts[room] = first;
        return true;
    }

    public boolean stuck(int room, boolean is) {
        if (!isRoom(room)) {
            return false;
        }
        now.elders.stuckRopes[room] = is;
        return true;
    }

    public boolean lies(int room, int left, int right, boolean pulls) {
        if (!isRoom(room) || !isNoteOrNone(left) || !isNoteOrNone(right)) {
            return false;
        }
        now.elders.liesLeft[room] = left;
        now.elders.liesRight[room] = right;
        now.elders.liesPull[room] = pulls;
        return true;
    }

    public boolean bar(int note, boolean is) {
        if (!isWithin(note, 0, MOST_NOTE)) {
            return false;
        }
        now.elders.barred[note] = is;
        return true;
    }

    public int feed(int a, int b, int c, int d, int e) {
        if (tape.length + FEED_BYTES > MOST_BYTES) {
            return NONE;
        }
        tape.append(a);
        tape.append(b);
        tape.append(c);
        tape.append(d);
        tape.append(e);
        return tape.length;
    }

    public int end(int n) {
        if (n < 0 || n > tape.length) {
            return NONE;
        }
        tape.length = n;
        return n;
    }

    public int text() {
        int number = now.texts;
        if (!isWithin(number, 0, MOST_TEXTS - 1)) {
            return NONE;
        }
        boolean sound = tape.read(texts[number]);
        faultKind = tape.fault;
        faultPlace = tape.place;
        tape.length = 0;
        if (!sound) {
            return NONE;
        }
        now.texts = number + 1;
        return number;
    }

    public int fault(int what) {
        if (what == 0) {
            return faultKind;
        }
        return what == 1 ? faultPlace : NONE;
    }

    public boolean by(int text) {
        if (!isWithin(text, NONE, now.texts - 1)) {
            return false;
        }
        now.elders.ruling = text;
        return true;
    }

    public int start() {
        int gone = now.moment.hour;
        now.moment.begin(now.elders);
        now.past.count = 0;
        return gone;
    }

    public int hours(int n) {
        if (!isWithin(n, 1, MOST_HOURS_A_CALL) || now.moment.hour + n > LAST_HOUR) {
            return NONE;
        }
        for (int i = 0; i < n; i++) {
            now.past.push(now.moment);
            hall.pass(now.elders, now.moment);
        }
        return now.moment.hour;
    }

    public int undo() {
        return now.past.pop(now.moment) ? now.moment.hour : NONE;
    }

    public int of(int room, int what) {
        if (!isRoom(room)) {
            return NOT_ASKED;
        }
        switch (what) {
            case 0: return now.moment.keeps[room];
            case 1: return now.moment.gotLeft[room];
            case 2: return now.moment.gotRight[room];
            case 3: return hall.wordOf(now.elders, now.moment, room);
            case 4: return now.elders.kinds[room];
            case 5: return now.elders.firsts[room];
            case 6: return now.elders.stuckRopes[room] ? 1 : 0;
            default: return NOT_ASKED;
        }
    }

    public boolean agree() {
        return hall.isAgreed(now.elders, now.moment);
    }

    public int agrees(int what) {
        if (!isWithin(what, 0, 1)) {
            return NONE;
        }
        return tries.agreement(now.elders, what == 1);
    }

    public int holds(int n, int v) {
        if (!isRunAsked(n, v)) {
            return NONE;
        }
        if (!runs.goThrough(now.elders, n, v, nothingHeard)) {
            return SPENT;
        }
        return runs.firstBad(now.elders, n) == NONE ? 1 : 0;
    }

    public int states(int n, int v) {
        if (!isRunAsked(n, v)) {
            return NONE;
        }
        return runs.goThrough(now.elders, n, v, nothingHeard) ? runs.found.count : SPENT;
    }

    public int bad(int n, int v, int i, int liar, int what) {
        if (!isRunAsked(n, v) || !isWithin(i, 0, n - 1) || !isWithin(what, 0, 2)) {
            return NO_RUN;
        }
        if (!isWithin(liar, 0, now.elders.countLiars() - 1)) {
            return NO_RUN;
        }
        if (!runs.goThrough(now.elders, n, v, nothingHeard)) {
            return SPENT;
        }
        int state = runs.firstBad(now.elders, n);
        return state == NONE ? NO_RUN : runs.doneOnTheWay(n, state, i, liar, what);
    }

    public int told(int room, int left, int right) {
        if (!isRoom(room) || !isNoteOrNone(left) || !isNoteOrNone(right)) {
            return NONE;
        }
        return now.heard.add(room, left, right) ? now.heard.count : NONE;
    }

    public int forget() {
        int were = now.heard.count;
        now.heard.count = 0;
        return were;
    }

    public int suspects(int v) {
        if (!isWithin(v, 0, MOST_RUN_NOTE) || now.heard.count == 0) {
            return NONE;
        }
        tried.copyFrom(now.elders);
        tried.makeLiarsSound();
        int answer = canBeHeard(v) ? NOBODY_LIES : 0;
        for (int room = 0; room < rooms; room++) {
            if (room == now.heard.room) {
                continue;
            }
            int kind = tried.kinds[room];
            tried.kinds[room] = LIAR;
            if (canBeHeard(v)) {
                answer |= 1 << room;
            }
            tried.kinds[room] = kind;
        }
        return answer;
    }

    public int slips(int n, int room, int word, int i) {
        if (!isWithin(n, 1, MOST_WATCHED) || !isRoom(room) || !isWithin(word, 0, MOST_WORD) || i < NONE) {
            return NONE;
        }
        return tries.slipsTo(now.elders, n, room, word, i);
    }

    public int learns(int slot, int n, int room) {
        if (!isRoom(slot) || !isWithin(n, 0, MOST_WATCHED) || !isRoom(room)) {
            return NONE;
        }
        tried.copyFrom(now.elders);
        return tries.unlikeRows(tried, slot, n, room);
    }

    public int image() {
        kept.copyFrom(now);
        return now.moment.hour;
    }

    public int back() {
        now.copyFrom(kept);
        return now.moment.hour;
    }

    public int about(int what) {
        switch (what) {
            case 0: return rooms;
            case 1: return now.moment.hour;
            case 2: return now.moment.bell;
            case 3: return now.texts;
            case 4: return now.elders.ruling;
            case 5: return now.past.count;
            case 6: return now.heard.count;
            case 7: return now.heard.count == 0 ? NONE : now.heard.room;
            case 8: return tape.length;
            case 9: return now.elders.countBarred();
            default: return NOT_ASKED;
        }
    }

    private boolean isRoom(int room) {
        return room >= 0 && room < rooms;
    }

    private boolean isRunAsked(int n, int v) {
        return isWithin(n, 0, MOST_RUN_HOURS) && isWithin(v, 0, MOST_RUN_NOTE)
            && now.elders.countLiars() <= MOST_LIARS;
    }

    /** Too many states count as a run that fits: the document gives the doubt to the suspicion. */
    private boolean canBeHeard(int v) {
        return !runs.goThrough(tried, now.heard.count, v, now.heard) || runs.found.count > 0;
    }

    private static boolean isNoteOrNone(int note) {
        return isWithin(note, NONE, MOST_NOTE);
    }

    private static boolean isWithin(int value, int least, int most) {
        return value >= least && value <= most;
    }

    private static int bounded(int value, int least, int most) {
        if (value < least) {
            return least;
        }
        return value > most ? most : value;
    }

    /**
     * A text as it was read: rows of steps, each of which works on the results of steps ahead of
     * it. A clause is a stretch of steps; its value is the result of its last one.
     */
    private static final class Text {

        // Steps that are no sign of a text; the others bear the number of their token.
        static final int UNLESS = 600;
        static final int PASS = 601;
        static final int CHOICE = 602;
        static final int OPPOSITE = 603;

        final int[] signs = new int[MOST_BYTES];
        final int[] firsts = new int[MOST_BYTES];
        final int[] seconds = new int[MOST_BYTES];
        final int[] thirds = new int[MOST_BYTES];
        final int[] clauseKinds = new int[MOST_CLAUSES];
        final int[] clauseHeads = new int[MOST_CLAUSES];
        final int[] clauseLasts = new int[MOST_CLAUSES];
        int size;
        int clauses;

        void clear() {
            size = 0;
            clauses = 0;
        }

        /** A text of 300 bytes has no more than 300 tokens, and no token makes two steps. */
        int add(int sign, int first, int second, int third) {
            if (size >= MOST_BYTES) {
                return NONE;
            }
            signs[size] = sign;
            firsts[size] = first;
            seconds[size] = second;
            thirds[size] = third;
            size++;
            return size - 1;
        }

        void skipFrom(int step, int howMany) {
            if (step >= 0 && step < size) {
                seconds[step] = howMany;
            }
        }

        void addClause(int kind, int head, int last) {
            if (clauses < MOST_CLAUSES) {
                clauseKinds[clauses] = kind;
                clauseHeads[clauses] = head;
                clauseLasts[clauses] = last;
                clauses++;
            }
        }

        int clauseOf(int kind) {
            for (int i = 0; i < clauses; i++) {
                if (clauseKinds[i] == kind) {
                    return i;
                }
            }
            return NONE;
        }
    }

    /** The tape of bytes, and the reading of it as a text. */
    private static final class Tape {

        // Tokens of one sign are that sign's byte.
        static final int NUMBER = 300;
        static final int AT_MOST = 301;
        static final int AT_LEAST = 302;
        static final int STOP = 303;
        static final int UNKNOWN = 304;

        static final int KEEP = 400;
        static final int LEFT = 401;
        static final int RIGHT = 402;
        static final int WORD = 403;
        static final int ROPE = 404;
        static final int IF = 405;
        static final int END = 406;
        static final int OR = 407;
        static final int AND = 408;
        static final int NOT = 409;
        static final int ME = 410;
        static final int KEPT = 411;
        static final int GOT_LEFT = 412;
        static final int GOT_RIGHT = 413;
        static final int BELL = 414;
        static final int HOUR = 415;
        static final int FIRST = 416;
        static final int ROOMS = 417;

        final int[] bytes = new int[MOST_BYTES];
        int length;
        int fault;
        int place;
        private Text made;
        private int token;
        private int tokenAt;
        private int behind;
        private int number;

        /** Four bytes, the highest first. */
        void append(int four) {
            for (int shift = 24; shift >= 0 && length < MOST_BYTES; shift -= 8) {
                bytes[length] = (four >>> shift) & 255;
                length++;
            }
        }

        boolean read(Text target) {
            made = target;
            made.clear();
            fault = 0;
            place = NONE;
            behind = 0;
            next();
            boolean right = true;
            for (int clause = 0; clause <= MOST_CLAUSES && right && token != STOP; clause++) {
                right = readClause();
            }
            return right;
        }

        private boolean readClause() {
            int kind = token;
            if (!mayBegin(kind)) {
                return false;
            }
            next();
            int head = made.size;
            int last = kind == ROPE ? readEither(0) : readSum(0);
            if (last == NONE || !isPassed(';')) {
                return false;
            }
            made.addClause(kind, head, last);
            return true;
        }

        private boolean mayBegin(int kind) {
            if (kind < KEEP || kind > ROPE) {
                wrong(1);
                return false;
            }
            if (kind != ROPE && made.clauseOf(kind) != NONE) {
                wrong(4);
                return false;
            }
            if (made.clauses >= MOST_CLAUSES) {
                wrong(5);
                return false;
            }
            return true;
        }

        private int readEither(int open) {
            int left = readBoth(open);
            for (int i = 0; i < MOST_BYTES && left != NONE && token == OR; i++) {
                next();
                left = pair(OR, left, readBoth(open));
            }
            return left;
        }

        private int readBoth(int open) {
            int left = readAsk(open);
            for (int i = 0; i < MOST_BYTES && left != NONE && token == AND; i++) {
                next();
                left = pair(AND, left, readAsk(open));
            }
            return left;
        }

        private int readAsk(int open) {
            if (token == NOT) {
                if (open >= MOST_OPEN) {
                    return wrong(3);
                }
                next();
                int asked = readAsk(open + 1);
                return asked == NONE ? NONE : made.add(NOT, asked, 0, 0);
            }
            int left = readSum(open);
            if (left == NONE) {
                return NONE;
            }
            int sign = token;
            if (sign != '<' && sign != '>' && sign != '=' && sign != '#' && sign != AT_MOST && sign != AT_LEAST) {
                return wrong(1);
            }
            next();
            return pair(sign, left, readSum(open));
        }

        private int readSum(int open) {
            int left = readProduct(open);
            for (int i = 0; i < MOST_BYTES && left != NONE && (token == '+' || token == '-'); i++) {
                int sign = token;
                next();
                left = pair(sign, left, readProduct(open));
            }
            return left;
        }

        private int readProduct(int open) {
            int left = readOne(open);
            for (int i = 0; i < MOST_BYTES && left != NONE && (token == '*' || token == '/'); i++) {
                int sign = token;
                next();
                left = pair(sign, left, readOne(open));
            }
            return left;
        }

        private int readOne(int open) {
            int first = token;
            int value = number;
            boolean opens = first == '(' || first == '-' || first == IF;
            if (first == NUMBER && value > MOST_NUMBER) {
                return wrong(2);
            }
            if (opens && open >= MOST_OPEN) {
                return wrong(3);
            }
            if (!opens && first != NUMBER && (first < ME || first > ROOMS)) {
                return wrong(1);
            }
            next();
            if (!opens) {
                return made.add(first, value, 0, 0);
            }
            if (first == IF) {
                return readChoice(open + 1);
            }
            if (first == '-') {
                int one = readOne(open + 1);
                return one == NONE ? NONE : made.add(Text.OPPOSITE, one, 0, 0);
            }
            int sum = readSum(open + 1);
            return sum != NONE && isPassed(')') ? sum : NONE;
        }

        private int readChoice(int open) {
            int asked = readEither(open);
            if (asked == NONE || !isPassed('?')) {
                return NONE;
            }
            int unless = made.add(Text.UNLESS, asked, 0, 0);
            int so = readSum(open);
            if (so == NONE || !isPassed(':')) {
                return NONE;
            }
            int pass = made.add(Text.PASS, 0, 0, 0);
            made.skipFrom(unless, pass - unless);
            int otherwise = readSum(open);
            if (otherwise == NONE || !isPassed(END)) {
                return NONE;
            }
            made.skipFrom(pass, otherwise - pass);
            return made.add(Text.CHOICE, asked, so, otherwise);
        }

        private int pair(int sign, int left, int right) {
            return right == NONE ? NONE : made.add(sign, left, right, 0);
        }

        private boolean isPassed(int sign) {
            if (token != sign) {
                wrong(1);
                return false;
            }
            next();
            return true;
        }

        private int wrong(int kind) {
            fault = kind;
            place = tokenAt;
            return NONE;
        }

        private void next() {
            while (behind < length && (bytes[behind] == ' ' || bytes[behind] == 10)) {
                behind++;
            }
            tokenAt = behind;
            if (behind >= length) {
                token = STOP;
            } else if (isDigit(bytes[behind])) {
                token = NUMBER;
                takeNumber();
            } else if (isLetter(bytes[behind])) {
                token = takeWord();
            } else {
                token = takeSign();
            }
        }

        private void takeNumber() {
            number = 0;
            while (behind < length && isDigit(bytes[behind])) {
                // Beyond the bound it only matters that it is beyond.
                number = number > MOST_NUMBER ? number : number * 10 + bytes[behind] - '0';
                behind++;
            }
        }

        private int takeWord() {
            while (behind < length && isLetter(bytes[behind])) {
                behind++;
            }
            for (int word = KEEP; word <= ROOMS; word++) {
                if (isSpelled(spelling(word))) {
                    return word;
                }
            }
            return UNKNOWN;
        }

        private boolean isSpelled(String word) {
            if (behind - tokenAt != word.length()) {
                return false;
            }
            for (int i = 0; i < word.length() && tokenAt + i < MOST_BYTES; i++) {
                if (bytes[tokenAt + i] != word.charAt(i)) {
                    return false;
                }
            }
            return true;
        }

        private int takeSign() {
            int sign = bytes[behind];
            behind++;
            boolean same = behind < length && bytes[behind] == '=';
            if (same && (sign == '<' || sign == '>')) {
                behind++;
                return sign == '<' ? AT_MOST : AT_LEAST;
            }
            return sign;
        }

        private static boolean isDigit(int sign) {
            return sign >= '0' && sign <= '9';
        }

        private static boolean isLetter(int sign) {
            return sign >= 'a' && sign <= 'z' || sign >= 'A' && sign <= 'Z';
        }

        private static String spelling(int word) {
            switch (word) {
                case KEEP: return "keep";
                case LEFT: return "left";
                case RIGHT: return "right";
                case WORD: return "word";
                case ROPE: return "rope";
                case IF: return "if";
                case END: return "end";
                case OR: return "or";
                case AND: return "and";
                case NOT: return "not";
                case ME: return "me";
                case KEPT: return "kept";
                case GOT_LEFT: return "gotleft";
                case GOT_RIGHT: return "gotright";
                case BELL: return "bell";
                case HOUR: return "hour";
                case FIRST: return "first";
                default: return "rooms";
            }
        }
    }

    /** What was told of the elders, the notes and the text that rules. */
    private static final class Elders {

        final int[] kinds;
        final int[] firsts;
        final int[] liesLeft;
        final int[] liesRight;
        final boolean[] liesPull;
        final boolean[] stuckRopes;
        final boolean[] barred;
        int ruling;

        Elders(int rooms) {
            kinds = new int[rooms];
            firsts = new int[rooms];
            liesLeft = new int[rooms];
            liesRight = new int[rooms];
            liesPull = new boolean[rooms];
            stuckRopes = new boolean[rooms];
            barred = new boolean[MOST_NOTE + 1];
            ruling = NONE;
            for (int i = 0; i < rooms; i++) {
                liesLeft[i] = NONE;
                liesRight[i] = NONE;
            }
        }

        void copyFrom(Elders other) {
            System.arraycopy(other.kinds, 0, kinds, 0, kinds.length);
            System.arraycopy(other.firsts, 0, firsts, 0, firsts.length);
            System.arraycopy(other.liesLeft, 0, liesLeft, 0, liesLeft.length);
            System.arraycopy(other.liesRight, 0, liesRight, 0, liesRight.length);
            System.arraycopy(other.liesPull, 0, liesPull, 0, liesPull.length);
            System.arraycopy(other.stuckRopes, 0, stuckRopes, 0, stuckRopes.length);
            System.arraycopy(other.barred, 0, barred, 0, barred.length);
            ruling = other.ruling;
        }

        int countLiars() {
            int count = 0;
            for (int kind : kinds) {
                count += kind == LIAR ? 1 : 0;
            }
            return count;
        }

        int countBarred() {
            int count = 0;
            for (boolean is : barred) {
                count += is ? 1 : 0;
            }
            return count;
        }

        void makeLiarsSound() {
            for (int i = 0; i < kinds.length; i++) {
                kinds[i] = kinds[i] == LIAR ? SOUND : kinds[i];
            }
        }

        /** What comes of a note that is put into a slot. */
        int through(int note) {
            return note < 0 || note > MOST_NOTE || barred[note] ? NONE : note;
        }
    }

    /** What one room got, hour by hour, as it was told. */
    private static final class Heard {

        final int[] left = new int[MOST_HEARD];
        final int[] right = new int[MOST_HEARD];
        int room;
        int count;

        boolean add(int ofRoom, int fromLeft, int fromRight) {
            if (ofRoom != room) {
                count = 0;
            }
            if (count >= MOST_HEARD) {
                return false;
            }
            room = ofRoom;
            left[count] = fromLeft;
            right[count] = fromRight;
            count++;
            return true;
        }

        /** Of an hour that was not told anything fits. */
        boolean isLike(Moment moment) {
            int at = moment.hour - 1;
            if (at < 0 || at >= count) {
                return true;
            }
            return moment.gotLeft[room] == left[at] && moment.gotRight[room] == right[at];
        }

        void copyFrom(Heard other) {
            System.arraycopy(other.left, 0, left, 0, MOST_HEARD);
            System.arraycopy(other.right, 0, right, 0, MOST_HEARD);
            room = other.room;
            count = other.count;
        }
    }

    /** Where the council stands between two hours. */
    private static final class Moment {

        final int[] keeps;
        final int[] gotLeft;
        final int[] gotRight;
        int bell;
        int hour;

        Moment(int rooms) {
            keeps = new int[rooms];
            gotLeft = new int[rooms];
            gotRight = new int[rooms];
            for (int i = 0; i < rooms; i++) {
                gotLeft[i] = NONE;
                gotRight[i] = NONE;
            }
        }

        void begin(Elders elders) {
            for (int i = 0; i < keeps.length; i++) {
                keeps[i] = elders.firsts[i];
                gotLeft[i] = NONE;
                gotRight[i] = NONE;
            }
            bell = 0;
            hour = 0;
        }

        void copyFrom(Moment other) {
            System.arraycopy(other.keeps, 0, keeps, 0, keeps.length);
            System.arraycopy(other.gotLeft, 0, gotLeft, 0, gotLeft.length);
            System.arraycopy(other.gotRight, 0, gotRight, 0, gotRight.length);
            bell = other.bell;
            hour = other.hour;
        }

        int countNotes() {
            int count = 0;
            for (int i = 0; i < keeps.length; i++) {
                count += gotLeft[i] == NONE ? 0 : 1;
                count += gotRight[i] == NONE ? 0 : 1;
            }
            return count;
        }
    }

    /** The latest hours that can be taken back, as a ring in which the oldest gives way. */
    private static final class Past {

        private final Moment[] ring;
        private int behind;
        int count;

        Past(int rooms) {
            ring = new Moment[MOST_PAST];
            for (int i = 0; i < MOST_PAST; i++) {
                ring[i] = new Moment(rooms);
            }
        }

        void push(Moment moment) {
            ring[behind].copyFrom(moment);
            behind = behind + 1 < MOST_PAST ? behind + 1 : 0;
            count = count < MOST_PAST ? count + 1 : MOST_PAST;
        }

        boolean pop(Moment moment) {
            if (count == 0) {
                return false;
            }
            behind = behind > 0 ? behind - 1 : MOST_PAST - 1;
            count--;
            moment.copyFrom(ring[behind]);
            return true;
        }

        void copyFrom(Past other) {
            for (int i = 0; i < MOST_PAST; i++) {
                ring[i].copyFrom(other.ring[i]);
            }
            behind = other.behind;
            count = other.count;
        }
    }

    /**
     * All that an image holds. Of the texts their number is enough: a text is never written over
     * while the image counts it.
     */
    private static final class Whole {

        final Elders elders;
        final Moment moment;
        final Past past;
        final Heard heard;
        int texts;

        Whole(int rooms) {
            elders = new Elders(rooms);
            moment = new Moment(rooms);
            past = new Past(rooms);
            heard = new Heard();
        }

        void copyFrom(Whole other) {
            elders.copyFrom(other.elders);
            moment.copyFrom(other.moment);
            past.copyFrom(other.past);
            heard.copyFrom(other.heard);
            texts = other.texts;
        }
    }

    /** Works the hours and the words by the text that rules. */
    private static final class Hall {

        final int rooms;
        // What each does in the hour at hand, ahead of bars and stuck ropes.
        final int[] keeps;
        final int[] left;
        final int[] right;
        final boolean[] pulls;
        private final Text[] texts;
        private final int[] results = new int[MOST_BYTES];

        Hall(int rooms, Text[] texts) {
            this.rooms = rooms;
            this.texts = texts;
            keeps = new int[rooms];
            left = new int[rooms];
            right = new int[rooms];
            pulls = new boolean[rooms];
        }

        int leftOf(int room) {
            return room > 0 ? room - 1 : rooms - 1;
        }

        int rightOf(int room) {
            return room + 1 < rooms ? room + 1 : 0;
        }

        void pass(Elders elders, Moment moment) {
            decide(elders, moment);
            carry(elders, moment, moment.hour + 1);
        }

        void decide(Elders elders, Moment moment) {
            for (int room = 0; room < rooms; room++) {
                boolean liar = elders.kinds[room] == LIAR;
                keeps[room] = moment.keeps[room];
                left[room] = liar ? elders.liesLeft[room] : NONE;
                right[room] = liar ? elders.liesRight[room] : NONE;
                pulls[room] = liar && elders.liesPull[room];
                if (elders.kinds[room] == SOUND && isRuled(elders)) {
                    decideSound(elders, moment, room);
                }
            }
        }

        private void decideSound(Elders elders, Moment moment, int room) {
            Text text = texts[elders.ruling];
            for (int clause = 0; clause < text.clauses; clause++) {
                int kind = text.clauseKinds[clause];
                if (kind == Tape.WORD) {
                    continue;
                }
                int value = work(text, clause, elders, moment, room);
                switch (kind) {
                    case Tape.KEEP: keeps[room] = bounded(value, 0, MOST_NOTE); break;
                    case Tape.LEFT: left[room] = bounded(value, NONE, MOST_NOTE); break;
                    case Tape.RIGHT: right[room] = bounded(value, NONE, MOST_NOTE); break;
                    default: pulls[room] = pulls[room] || value != 0; break;
                }
            }
        }

        /** What was decided comes about; the moment may be the one by which it was decided. */
        void carry(Elders elders, Moment moment, int hour) {
            int counted = 0;
            for (int room = 0; room < rooms; room++) {
                moment.keeps[room] = keeps[room];
                moment.gotLeft[rightOf(room)] = elders.through(right[room]);
                moment.gotRight[leftOf(room)] = elders.through(left[room]);
                counted += pulls[room] && !elders.stuckRopes[room] ? 1 : 0;
            }
            moment.bell = counted;
            moment.hour = hour;
        }

        int wordOf(Elders elders, Moment moment, int room) {
            int clause = isRuled(elders) ? texts[elders.ruling].clauseOf(Tape.WORD) : NONE;
            int value = clause == NONE ? moment.keeps[room]
                : work(texts[elders.ruling], clause, elders, moment, room);
            return bounded(value, 0, MOST_WORD);
        }

        boolean isAgreed(Elders elders, Moment moment) {
            int said = NONE;
            for (int room = 0; room < rooms; room++) {
                if (elders.kinds[room] != SOUND) {
                    continue;
                }
                int word = wordOf(elders, moment, room);
                if (said != NONE && said != word) {
                    return false;
                }
                said = word;
            }
            return true;
        }

        private boolean isRuled(Elders elders) {
            return elders.ruling >= 0 && elders.ruling < MOST_TEXTS;
        }

        /** Skips lead forward only, so each step is worked once at most. */
        private int work(Text text, int clause, Elders elders, Moment moment, int room) {
            int last = text.clauseLasts[clause];
            for (int at = text.clauseHeads[clause]; at <= last; at++) {
                int sign = text.signs[at];
                int first = text.firsts[at];
                int second = text.seconds[at];
                switch (sign) {
                    case Tape.NUMBER: results[at] = first; break;
                    case Tape.ME: results[at] = room; break;
                    case Tape.KEPT: results[at] = moment.keeps[room]; break;
                    case Tape.GOT_LEFT: results[at] = moment.gotLeft[room]; break;
                    case Tape.GOT_RIGHT: results[at] = moment.gotRight[room]; break;
                    case Tape.BELL: results[at] = moment.bell; break;
                    case Tape.HOUR: results[at] = moment.hour; break;
                    case Tape.FIRST: results[at] = elders.firsts[room]; break;
                    case Tape.ROOMS: results[at] = rooms; break;
                    case Tape.NOT: results[at] = 1 - results[first]; break;
                    case Text.OPPOSITE: results[at] = -results[first]; break;
                    case Text.UNLESS: at += results[first] == 0 ? second : 0; break;
                    case Text.PASS: at += second; break;
                    case Text.CHOICE: results[at] = results[results[first] != 0 ? second : text.thirds[at]]; break;
                    default: results[at] = join(sign, results[first], results[second]); break;
                }
            }
            return results[last];
        }

        private static int join(int sign, int left, int right) {
            long value = 0;
            switch (sign) {
                case '+': value = (long) left + right; break;
                case '-': value = (long) left - right; break;
                case '*': value = (long) left * right; break;
                case '/': value = right == 0 ? 0 : left / right; break;
                case '<': value = left < right ? 1 : 0; break;
                case '>': value = left > right ? 1 : 0; break;
                case '=': value = left == right ? 1 : 0; break;
                case '#': value = left != right ? 1 : 0; break;
                case Tape.AT_MOST: value = left <= right ? 1 : 0; break;
                case Tape.AT_LEAST: value = left >= right ? 1 : 0; break;
                case Tape.OR: value = left | right; break;
                default: value = left & right; break;
            }
            if (value > MOST_VALUE) {
                return MOST_VALUE;
            }
            return value < -MOST_VALUE ? -MOST_VALUE : (int) value;
        }
    }

    /** What is tried with the lies as they were told: agreement, slips, and a watcher's rows. */
    private static final class Tries {

        private final int rooms;
        private final Hall hall;
        private final Moment main;
        private final Moment slipped;
        private final int[][] seen = new int[MOST_WORD + 1][2 * MOST_WATCHED];

        Tries(int rooms, Hall hall) {
            this.rooms = rooms;
            this.hall = hall;
            main = new Moment(rooms);
            slipped = new Moment(rooms);
        }

        /** The hour since which they agree, or the notes till then. */
        int agreement(Elders elders, boolean asNotes) {
            int since = NONE;
            int notesTill = NONE;
            int notes = 0;
            main.begin(elders);
            for (int hour = 0; hour <= MOST_TRIED; hour++) {
                notes += main.countNotes();
                if (!hall.isAgreed(elders, main)) {
                    since = NONE;
                    notesTill = NONE;
                } else if (since == NONE) {
                    since = hour;
                    notesTill = notes;
                }
                hall.pass(elders, main);
            }
            return asNotes ? notesTill : since;
        }

        int slipsTo(Elders elders, int n, int room, int word, int wanted) {
            int count = 0;
            main.begin(elders);
            for (int hour = 0; hour < n; hour++) {
                hall.pass(elders, main);
                for (int slot = 0; slot < 2 * rooms; slot++) {
                    if (!slip(slot)) {
                        continue;
                    }
                    for (int more = hour + 1; more < n; more++) {
                        hall.pass(elders, slipped);
                    }
                    if (hall.wordOf(elders, slipped, room) == word) {
                        if (count == wanted) {
                            return 100 * hour + 10 * (slot / 2) + slot % 2;
                        }
                        count++;
                    }
                }
            }
            return wanted == NONE ? count : NONE;
        }

        /** The note of a room and a side, if one came, comes as one more in the slipped moment. */
        private boolean slip(int slot) {
            int writer = slot / 2;
            boolean toTheLeft = slot % 2 == 0;
            int reader = toTheLeft ? hall.leftOf(writer) : hall.rightOf(writer);
            int note = toTheLeft ? main.gotRight[reader] : main.gotLeft[reader];
            if (note == NONE) {
                return false;
            }
            int wrong = note < MOST_NOTE ? note + 1 : 0;
            slipped.copyFrom(main);
            if (toTheLeft) {
                slipped.gotRight[reader] = wrong;
            } else {
                slipped.gotLeft[reader] = wrong;
            }
            return true;
        }

        int unlikeRows(Elders tried, int slot, int n, int room) {
            int unlike = 0;
            for (int first = 0; first <= MOST_WORD; first++) {
                tried.firsts[room] = first;
                watch(tried, slot, n, seen[first]);
                boolean isNew = true;
                for (int other = 0; other < first && isNew; other++) {
                    isNew = !isSameRow(seen[first], seen[other], 2 * n);
                }
                unlike += isNew ? 1 : 0;
            }
            return unlike;
        }

        private void watch(Elders tried, int slot, int n, int[] row) {
            main.begin(tried);
            for (int hour = 0; hour < n; hour++) {
                hall.pass(tried, main);
                row[2 * hour] = main.gotRight[slot];
                row[2 * hour + 1] = main.gotLeft[hall.rightOf(slot)];
            }
        }

        private static boolean isSameRow(int[] one, int[] other, int length) {
            for (int i = 0; i < length; i++) {
                if (one[i] != other[i]) {
                    return false;
                }
            }
            return true;
        }
    }

    /** The unlike states of one hour, in the order in which they were found. */
    private static final class Found {

        static final int OLD = 0;
        static final int NEW = 1;
        static final int FULL = 2;

        // More than twice as many as there are states, so that looks stay short.
        private static final int SLOTS = 4096;
        private static final int NOTE_KINDS = MOST_NOTE + 2;

        private final int width;
        private final int[] rows;
        private final int[] row;
        private final int[] slots = new int[SLOTS];
        private final int[] slotOf = new int[MOST_STATES];
        int count;

        Found(int rooms) {
            width = rooms + 1;
            rows = new int[MOST_STATES * width];
            row = new int[width];
        }

        void clear() {
            for (int i = 0; i < count; i++) {
                slots[slotOf[i]] = 0;
            }
            count = 0;
        }

        int put(Moment moment) {
            int slot = pack(moment);
            for (int looks = 0; looks < SLOTS && slots[slot] != 0; looks++) {
                if (isRowAt(slots[slot] - 1)) {
                    return OLD;
                }
                slot = (slot + 1) & (SLOTS - 1);
            }
            if (count >= MOST_STATES) {
                return FULL;
            }
            System.arraycopy(row, 0, rows, count * width, width);
            slotOf[count] = slot;
            count++;
            slots[slot] = count;
            return NEW;
        }

        void show(int state, Moment moment) {
            int at = state * width;
            for (int room = 0; room + 1 < width; room++) {
                int code = rows[at + room];
                moment.gotRight[room] = code % NOTE_KINDS - 1;
                moment.gotLeft[room] = code / NOTE_KINDS % NOTE_KINDS - 1;
                moment.keeps[room] = code / (NOTE_KINDS * NOTE_KINDS);
            }
            moment.bell = rows[at + width - 1];
        }

        /** Writes the moment into the row, and answers where to look for it first. */
        private int pack(Moment moment) {
            int hash = moment.bell;
            for (int room = 0; room + 1 < width; room++) {
                int code = moment.keeps[room] * NOTE_KINDS + moment.gotLeft[room] + 1;
                row[room] = code * NOTE_KINDS + moment.gotRight[room] + 1;
                hash = (hash ^ row[room]) * 0x01000193;
                hash ^= hash >>> 15;
            }
            row[width - 1] = moment.bell;
            return hash & (SLOTS - 1);
        }

        private boolean isRowAt(int state) {
            int at = state * width;
            for (int i = 0; i < width; i++) {
                if (rows[at + i] != row[i]) {
                    return false;
                }
            }
            return true;
        }
    }

    /** All runs of the liars, hour by hour. */
    private static final class Runs {

        Found found;
        private Found ahead;
        // What the hour makes of a state if the liars do nothing: alike ones lead to the same states.
        private final Found quiet;
        private final int[][] parents = new int[MOST_HEARD + 1][MOST_STATES];
        private final int[][] doings = new int[MOST_HEARD + 1][MOST_STATES];
        private final Hall hall;
        private final Moment here;
        private final Moment there;
        private final int[] liars = new int[MOST_LIARS];
        // The liars' doings of an hour that are tried, in order.
        private final int[] tries = new int[MOST_DOINGS];
        private int liarCount;
        private int noteKinds;
        private int tryCount;

        Runs(int rooms, Hall hall) {
            this.hall = hall;
            found = new Found(rooms);
            ahead = new Found(rooms);
            quiet = new Found(rooms);
            here = new Moment(rooms);
            there = new Moment(rooms);
            noteKinds = 2;
        }

        /** Leaves the states of the last hour in found; false if an hour had too many. */
        boolean goThrough(Elders elders, int hours, int v, Heard heard) {
            seatLiars(elders, v);
            here.begin(elders);
            found.clear();
            found.put(here);
            boolean all = true;
            for (int hour = 1; hour <= hours && hour <= MOST_HEARD && all; hour++) {
                Found free = ahead;
                ahead = found;
                found = free;
                all = goOneHour(elders, hour, heard);
            }
            return all;
        }

        private void seatLiars(Elders elders, int v) {
            liarCount = 0;
            noteKinds = v + 2;
            int doingCount = 1;
            for (int room = 0; room < hall.rooms && liarCount < MOST_LIARS; room++) {
                if (elders.kinds[room] == LIAR) {
                    liars[liarCount] = room;
                    liarCount++;
                    doingCount *= noteKinds * noteKinds * 2;
                }
            }
            tryCount = 0;
            for (int doing = 0; doing < doingCount && tryCount < MOST_DOINGS; doing++) {
                if (!isIdle(elders, doing)) {
                    tries[tryCount] = doing;
                    tryCount++;
                }
            }
        }

        /** A barred note comes to none, and a stuck pull to no pull: those are tried anyway. */
        private boolean isIdle(Elders elders, int doing) {
            for (int liar = 0; liar < liarCount; liar++) {
                int left = doneBy(doing, liar, 0);
                int right = doneBy(doing, liar, 1);
                boolean pulls = doneBy(doing, liar, 2) == 1;
                if (elders.through(left) != left || elders.through(right) != right) {
                    return true;
                }
                if (pulls && elders.stuckRopes[liars[liar]]) {
                    return true;
                }
            }
            return false;
        }

        private boolean goOneHour(Elders elders, int hour, Heard heard) {
            found.clear();
            quiet.clear();
            for (int state = 0; state < ahead.count; state++) {
                ahead.show(state, here);
                here.hour = hour - 1;
                hall.decide(elders, here);
                setLiars(0);
                hall.carry(elders, there, hour);
                if (quiet.put(there) != Found.NEW) {
                    continue;
                }
                for (int i = 0; i < tryCount; i++) {
                    setLiars(tries[i]);
                    hall.carry(elders, there, hour);
                    int put = heard.isLike(there) ? found.put(there) : Found.OLD;
                    if (put == Found.FULL) {
                        return false;
                    }
                    if (put == Found.NEW) {
                        parents[hour][found.count - 1] = state;
                        doings[hour][found.count - 1] = tries[i];
                    }
                }
            }
            return true;
        }

        private void setLiars(int doing) {
            for (int liar = 0; liar < liarCount; liar++) {
                int room = liars[liar];
                hall.left[room] = doneBy(doing, liar, 0);
                hall.right[room] = doneBy(doing, liar, 1);
                hall.pulls[room] = doneBy(doing, liar, 2) == 1;
            }
        }

        /** A doing counts through left, right and pull of each liar, the last one's pull fastest. */
        private int doneBy(int doing, int liar, int what) {
            int own = doing;
            for (int behind = liar + 1; behind < liarCount; behind++) {
                own /= noteKinds * noteKinds * 2;
            }
            switch (what) {
                case 0: return own / (2 * noteKinds) % noteKinds - 1;
                case 1: return own / 2 % noteKinds - 1;
                default: return own % 2;
            }
        }

        int firstBad(Elders elders, int hour) {
            here.hour = hour;
            for (int state = 0; state < found.count; state++) {
                found.show(state, here);
                if (!hall.isAgreed(elders, here)) {
                    return state;
                }
            }
            return NONE;
        }

        int doneOnTheWay(int n, int state, int i, int liar, int what) {
            int at = state;
            for (int hour = n; hour > i + 1; hour--) {
                at = parents[hour][at];
            }
            return doneBy(doings[i + 1][at], liar, what);
        }
    }
}
