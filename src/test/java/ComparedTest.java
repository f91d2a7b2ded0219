import java.util.Random;

/** Many runs of calls, each answered by the class and by the plain council beside it. */
public final class ComparedTest {

    private static final int RUNS = 200;
    private static final int CALLS = 160;

    private final Checks checks;
    private final Random random;
    private final TextMaker maker;
    private final int run;
    private RingCouncil council;
    private PlainCouncil plain;
    private int rooms;

    private ComparedTest(Checks checks, int run) {
        this.checks = checks;
        this.run = run;
        random = new Random(run * 7919L + 13);
        maker = new TextMaker(random);
    }

    public static void main(String[] args) {
        Checks checks = new Checks();
        int from = args.length > 1 ? Integer.parseInt(args[0]) : 0;
        int to = args.length > 1 ? Integer.parseInt(args[1]) : RUNS;
        for (int run = from; run < to; run++) {
            new ComparedTest(checks, run).compare();
        }
        checks.close();
    }

    private void due(String call, long got, long want) {
        checks.due("run " + run + ": " + call, got, want);
    }

    private void due(String call, boolean got, boolean want) {
        checks.due("run " + run + ": " + call, got, want);
    }

    private void compare() {
        int asked = random.nextInt(10) == 0 ? random.nextInt(40) - 20 : 3 + random.nextInt(random.nextBoolean() ? 3 : 7);
        council = new RingCouncil(asked);
        plain = new PlainCouncil(asked);
        rooms = plain.about(0);
        seat();
        for (int i = 0; i < CALLS; i++) {
            call();
        }
        sweep();
    }

    /** Sound ones who begin alike, so that it is the liars by whom it goes wrong, if it does. */
    private void sweep() {
        council = new RingCouncil(rooms);
        plain = new PlainCouncil(rooms);
        readText(maker.text());
        due("by(0)", council.by(0), plain.by(0));
        int first = random.nextInt(3);
        for (int room = 0; room < rooms; room++) {
            elder(room, random.nextInt(8) == 0 ? 2 : 0, first);
        }
        elder(random.nextInt(rooms), 1, first);
        if (random.nextBoolean()) {
            elder(random.nextInt(rooms), 1, first);
        }
        int v = random.nextInt(3);
        int most = random.nextInt(4) == 0 ? 4 : 2;
        for (int n = 0; n <= most; n++) {
            due("holds(" + n + ", " + v + ")", council.holds(n, v), plain.holds(n, v));
            due("states(" + n + ", " + v + ")", council.states(n, v), plain.states(n, v));
            for (int i = 0; i < n; i++) {
                for (int which = 0; which < 6; which++) {
                    due("bad(" + n + ", " + v + ", " + i + ", " + which / 3 + ", " + which % 3 + ")",
                        council.bad(n, v, i, which / 3, which % 3), plain.bad(n, v, i, which / 3, which % 3));
                }
            }
        }
    }

    private void seat() {
        readText(maker.text());
        due("by(0)", council.by(0), plain.by(0));
        int liars = random.nextInt(3);
        for (int room = 0; room < rooms; room++) {
            elder(room, random.nextInt(6) == 0 ? 2 : 0, random.nextInt(4));
        }
        for (int i = 0; i < liars; i++) {
            elder(random.nextInt(rooms), 1, random.nextInt(10));
        }
        due("start", council.start(), plain.start());
    }

    private void elder(int room, int kind, int first) {
        due("elder(" + room + ", " + kind + ", " + first + ")", council.elder(room, kind, first),
            plain.elder(room, kind, first));
    }

    private void readText(String text) {
        due("end(0)", council.end(0), plain.end(0));
        for (int at = 0; at < text.length(); at += 20) {
            int a = Checks.four(text, at);
            int b = Checks.four(text, at + 4);
            int c = Checks.four(text, at + 8);
            int d = Checks.four(text, at + 12);
            int e = Checks.four(text, at + 16);
            due("feed", council.feed(a, b, c, d, e), plain.feed(a, b, c, d, e));
        }
        due("end", council.end(text.length()), plain.end(text.length()));
        due("text of " + text, council.text(), plain.text());
        due("fault(0) of " + text, council.fault(0), plain.fault(0));
        due("fault(1) of " + text, council.fault(1), plain.fault(1));
        due("about(8)", council.about(8), plain.about(8));
    }

    /** Mostly a value within the bounds, now and then one at or beyond them. */
    private int some(int least, int most) {
        int way = random.nextInt(14);
        if (way == 0) {
            return least - 1;
        }
        if (way == 1) {
            return most + 1;
        }
        if (way == 2 && random.nextInt(6) == 0) {
            return random.nextBoolean() ? Integer.MAX_VALUE : Integer.MIN_VALUE;
        }
        return least + random.nextInt(most - least + 1);
    }

    private int note() {
        int way = random.nextInt(8);
        return way == 0 ? some(-1, 99) : way == 1 ? 99 : random.nextInt(4) - 1;
    }

    private void call() {
        int way = random.nextInt(40);
        if (way < 12) {
            tell(way);
        } else if (way < 20) {
            goOn(way);
        } else {
            ask(way);
        }
        look();
    }

    private void tell(int way) {
        int room = some(0, rooms - 1);
        boolean is = random.nextBoolean();
        if (way < 2) {
            elder(room, random.nextInt(3) > 0 ? 0 : some(0, 2), some(0, 9));
        } else if (way < 4) {
            due("stuck", council.stuck(room, is), plain.stuck(room, is));
        } else if (way < 6) {
            int left = note();
            int right = note();
            due("lies", council.lies(room, left, right, is), plain.lies(room, left, right, is));
        } else if (way < 8) {
            int note = random.nextInt(4) > 0 ? random.nextInt(6) : some(0, 99);
            boolean barred = is && random.nextBoolean();
            due("bar(" + note + ")", council.bar(note, barred), plain.bar(note, barred));
        } else if (way < 10) {
            int kind = random.nextInt(5);
            String text = kind == 0 ? maker.limits() : maker.text();
            readText(kind > 1 ? maker.spoiled(text) : text);
        } else {
            int text = some(-1, 3);
            due("by(" + text + ")", council.by(text), plain.by(text));
        }
    }

    private void goOn(int way) {
        if (way < 15) {
            int n = random.nextInt(5) == 0 ? some(1, 99) : 1 + random.nextInt(4);
            due("hours(" + n + ")", council.hours(n), plain.hours(n));
        } else if (way == 15) {
            due("undo", council.undo(), plain.undo());
        } else if (way == 16) {
            due("start", council.start(), plain.start());
        } else if (way == 17) {
            due("image", council.image(), plain.image());
        } else if (way == 18) {
            due("back", council.back(), plain.back());
        } else {
            hear();
        }
    }

    /** Tells what a room may well have got, so that there are suspects. */
    private void hear() {
        int room = random.nextInt(3) > 0 && plain.about(7) >= 0 ? plain.about(7) : some(0, rooms - 1);
        int left = random.nextInt(3) > 0 ? plain.of(Math.floorMod(room, rooms), 1) : note();
        int right = random.nextInt(3) > 0 ? plain.of(Math.floorMod(room, rooms), 2) : note();
        due("told(" + room + ", " + left + ", " + right + ")", council.told(room, left, right),
            plain.told(room, left, right));
        if (random.nextInt(12) == 0) {
            due("forget", council.forget(), plain.forget());
        }
    }

    private void ask(int way) {
        int n = random.nextInt(4) == 0 ? some(0, 6) : random.nextInt(4);
        int v = random.nextInt(3) == 0 ? some(0, 2) : 0;
        int room = some(0, rooms - 1);
        if (way < 22) {
            due("holds(" + n + ", " + v + ")", council.holds(n, v), plain.holds(n, v));
        } else if (way < 24) {
            due("states(" + n + ", " + v + ")", council.states(n, v), plain.states(n, v));
        } else if (way < 27) {
            int i = some(0, n < 1 || n > 6 ? 0 : n - 1);
            int liar = some(0, 1);
            int what = some(0, 2);
            due("bad(" + n + ", " + v + ", " + i + ", " + liar + ", " + what + ")",
                council.bad(n, v, i, liar, what), plain.bad(n, v, i, liar, what));
        } else if (way < 29) {
            int what = some(0, 1);
            due("agrees(" + what + ")", council.agrees(what), plain.agrees(what));
        } else if (way < 32) {
            int hours = random.nextInt(4) > 0 ? 1 + random.nextInt(4) : some(1, 20);
            int word = random.nextBoolean() ? plain.of(Math.floorMod(room, rooms), 3) : some(0, 9);
            int i = random.nextBoolean() ? -1 : some(-1, 12);
            due("slips(" + hours + ", " + room + ", " + word + ", " + i + ")",
                council.slips(hours, room, word, i), plain.slips(hours, room, word, i));
        } else if (way < 35) {
            int slot = some(0, rooms - 1);
            int hours = random.nextInt(3) > 0 ? random.nextInt(4) : some(0, 20);
            due("learns(" + slot + ", " + hours + ", " + room + ")", council.learns(slot, hours, room),
                plain.learns(slot, hours, room));
        } else {
            hear();
            due("suspects(" + v + ")", council.suspects(v), plain.suspects(v));
        }
    }

    private void look() {
        int room = some(0, rooms - 1);
        int what = some(0, 6);
        due("of(" + room + ", " + what + ")", council.of(room, what), plain.of(room, what));
        int about = some(0, 9);
        due("about(" + about + ")", council.about(about), plain.about(about));
        due("agree", council.agree(), plain.agree());
    }
}
