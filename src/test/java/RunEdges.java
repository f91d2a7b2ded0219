/** The edges of all runs of the liars, and of what is told of a room: promises 17 to 22, and terms IV. */
final class RunEdges {

    private static final int LOW = Edges.LOW;
    private static final int HIGH = Edges.HIGH;

    private static final String JUST_2000 = just2000(0);
    private static final String JUST_2004 = just2004(0);
    // By what room 2 got from room 1 it keeps 74 values in HOUR 7, and room 3 keeps 9: 666, and 3 ways to get a note.
    private static final String JUST_1998 = "keep if me=2?if hour=3?gotleft+1:if kept*3+gotleft+1>73?73:kept*3+gotleft+1 end end:"
        + "if gotleft>=0?gotleft:if bell=2?9:kept end end end; right if me=2 and hour=3?kept:-1 end;";
    // Room 3 splits one of the 666 by two bells in HOUR 6.
    private static final String JUST_2001 = JUST_1998 + "rope hour=5 and kept=8 and me=3;rope hour=5 and kept=8 and gotleft=1;";

    private final Edges edges;

    RunEdges(Edges edges) {
        this.edges = edges;
    }

    void all() {
        holding();
        greatestNote();
        holdsSpent();
        holdsRefused();
        states();
        statesSpent();
        statesOfEachRoom();
        statesRefused();
        oneBehindAnother();
        bad();
        badOfTwo();
        badRefused();
        badSpent();
        telling();
        tellingRefused();
        forgetting();
        suspects();
        suspectsRefused();
        suspectsTold();
        suspectsSpent();
        suspectsJustSpent();
        nobodyLies();
    }

    /** By what both beside a liar got they keep 25 and 20 values in HOUR 6: 500, and 4 ways to get notes. */
    private static String just2000(int liar) {
        return "keep if me=" + (liar + 1) % 4 + "?if kept*2+gotleft+1>24?24:kept*2+gotleft+1 end:"
            + "if me=" + (liar + 3) % 4 + "?if kept*2+gotright+1>19?19:kept*2+gotright+1 end:if bell=2?1:kept end end end;";
    }

    /** The fourth room splits one of the 500 by two bells in HOUR 5; four more are the fewest that can be. */
    private static String just2004(int liar) {
        return just2000(liar) + "rope kept=7 and hour=4;";
    }

    private static RingCouncil council(String text, int rooms, int... liars) {
        RingCouncil council = Checks.council(text, new int[rooms]);
        for (int liar : liars) {
            council.elder(liar, 1, 0);
        }
        return council;
    }

    private static RingCouncil spent(String text) {
        RingCouncil council = council(text, 4, 0);
        council.stuck(0, true);
        return council;
    }

    private void holding() {
        edges.sentence("17", "HOLDS (1, 0), v being the greatest note.");
        int[][] liars = {{}, {3}, {0}, {0, 3}, {1, 3}};
        for (int[] who : liars) {
            int most = who.length == 2 ? 1 : 6;
            for (int unlike = 0; unlike <= most; unlike++) {
                RingCouncil council = council("word if hour=" + unlike + "?me:5 end;", 5, who);
                for (int n = 0; n <= most; n++) {
                    edges.due("unlike at " + unlike + ", " + who.length + " liars, " + n, council.holds(n, 0),
                        n == unlike ? 0 : 1);
                }
            }
        }
        edges.due("all are liars but one", council("word me;", 3, 0, 2).holds(1, 0), 1);
        RingCouncil council = council("word me;", 3, 0, 2);
        council.elder(1, 2, 0);
        edges.due("none is sound", council.holds(1, 2), 1);
        edges.due("one of two unlike", council("word me;", 4, 0, 2).holds(1, 0), 0);
    }

    private void greatestNote() {
        edges.sentence("17", "HOLDS (1, 0), v being the greatest note.");
        for (int note = 0; note <= 3; note++) {
            RingCouncil rights = council("word if gotleft=" + note + "?7:5 end;", 4, 2);
            RingCouncil lefts = council("word if gotright=" + note + "?7:5 end;", 4, 2);
            for (int v = 0; v <= 2; v++) {
                edges.due("note " + note + " to the right, v " + v, rights.holds(1, v), v >= note ? 0 : 1);
                edges.due("note " + note + " to the left, v " + v, lefts.holds(1, v), v >= note ? 0 : 1);
            }
        }
        RingCouncil bells = council("word if bell=1?me:5 end;", 4, 2);
        edges.due("pulls", bells.holds(1, 0), 0);
        bells.stuck(2, true);
        edges.due("a stuck rope", bells.holds(1, 0), 1);
        RingCouncil barred = council("word if gotleft=1?7:5 end;", 4, 2);
        barred.bar(1, true);
        edges.due("a barred note", barred.holds(1, 2), 1);
    }

    private void holdsSpent() {
        edges.sentence("17", "SPENT.");
        edges.due("2000 are not too many", spent(JUST_2000 + "word 5;").holds(6, 0), 1);
        edges.due("2000 are not too many", spent(JUST_2000).holds(6, 0), 0);
        edges.due("2004 are", spent(JUST_2004 + "word 5;").holds(6, 0), -2);
        edges.due("an hour earlier", spent(JUST_2004 + "word 5;").holds(5, 0), 1);
        edges.changesNothing("SPENT", () -> spent(JUST_2004), council -> council.holds(6, 0), -2);
    }

    private void holdsRefused() {
        edges.sentence("17", "NONE for others, and if there are more than 2 liars.");
        int[][] wrong = {{-1, 0}, {7, 0}, {LOW, 0}, {HIGH, 0}, {0, -1}, {0, 3}, {6, 3}, {0, LOW}, {0, HIGH}, {7, 3}};
        for (int[] w : wrong) {
            edges.changesNothing("holds(" + w[0] + ", " + w[1] + ")", council -> council.holds(w[0], w[1]), -1);
        }
        edges.due("two liars", council("", 9, 0, 8).holds(0, 0), 1);
        edges.due("three liars", council("", 9, 0, 4, 8).holds(0, 0), -1);
        edges.due("three of three", council("", 3, 0, 1, 2).holds(1, 0), -1);
        edges.due("nine liars", council("", 9, 0, 1, 2, 3, 4, 5, 6, 7, 8).holds(6, 2), -1);
        edges.changesNothing("three liars", () -> council("left 1;", 5, 1, 2, 3), council -> council.holds(2, 1), -1);
        edges.due("too many hours, SPENT else", spent(JUST_2004).holds(7, 0), -1);
    }

    private void states() {
        edges.sentence("18", "How many STATES there are at HOUR n.");
        for (int n = 0; n <= 6; n++) {
            edges.due("without a liar, " + n, council("left hour; keep kept+1;", 5).states(n, 2), 1);
        }
        for (int v = 0; v <= 2; v++) {
            int sides = (v + 2) * (v + 2);
            edges.due("HOUR 0, v " + v, council("", 4, 3).states(0, v), 1);
            edges.due("one liar, v " + v, council("", 4, 3).states(1, v), sides * 2);
            edges.due("one liar to HOUR 6, v " + v, council("", 4, 3).states(6, v), sides * 2);
            edges.due("two liars, v " + v, council("", 4, 0, 2).states(1, v), sides * sides * 3);
            edges.due("two beside one another, v " + v, council("", 3, 0, 2).states(2, v), sides * sides * 3);
            RingCouncil stuck = council("", 4, 0, 2);
            stuck.stuck(2, true);
            edges.due("one rope is stuck, v " + v, stuck.states(1, v), sides * sides * 2);
            stuck.stuck(0, true);
            edges.due("both are, v " + v, stuck.states(1, v), sides * sides);
            stuck.bar(v, true);
            edges.due("a note is barred, v " + v, stuck.states(1, v), (v + 1) * (v + 1) * (v + 1) * (v + 1));
        }
        edges.sentence(Edges.TERMS, "One that was found in the same HOUR isn't again.");
        edges.due("found by two states of HOUR 1", council("keep kept+gotleft;", 4, 3).states(2, 1), 18 * 2);
        edges.due("a pull of one or of the other", council("", 9, 2, 6).states(1, 0), 48);
    }

    private void statesSpent() {
        edges.sentence("18", "SPENT.");
        edges.due("2000 in HOUR 6", spent(JUST_2000).states(6, 0), 2000);
        edges.due("2004 in HOUR 6", spent(JUST_2004).states(6, 0), -2);
        edges.due("HOUR 5", spent(JUST_2004).states(5, 0), 1024);
        RingCouncil council = council("keep kept*2+gotleft+gotright+2;", 4, 0);
        edges.due("HOUR 2", council.states(2, 2), 32 * 16);
        edges.due("SPENT in HOUR 3", council.states(3, 2), -2);
        edges.due("SPENT on the way", council.states(6, 2), -2);
        edges.due("HOUR 3 of fewer notes", council.states(3, 0), 8 * 16);
        edges.changesNothing("SPENT", () -> spent(JUST_2004), spent -> spent.states(6, 0), -2);
        edges.sentence(Edges.TERMS, "The 2001st of an HOUR ends it: SPENT.");
        edges.due("hours have 2000 each", spent(JUST_2000).states(6, 0), 2000);
        edges.due("2004 in one", spent(JUST_2004).states(6, 0), -2);
    }

    /** The same 2000 and 2004, with the liar in each of the rooms. */
    private void statesOfEachRoom() {
        edges.sentence("18", "How many STATES there are at HOUR n.");
        for (int liar = 0; liar < 4; liar++) {
            RingCouncil council = council(just2004(liar), 4, liar);
            council.stuck(liar, true);
            for (int n = 0; n <= 6; n++) {
                int[] wants = {1, 4, 16, 64, 256, 1024, -2};
                edges.due("the liar in " + liar + ", HOUR " + n, council.states(n, 0), wants[n]);
            }
            Checks.text(council, just2000(liar));
            council.by(1);
            edges.due("the liar in " + liar + ", 2000", council.states(6, 0), 2000);
        }
        RingCouncil high = council("right 99; left 98; keep if gotleft=99 and gotright=98 or kept=99?99:0 end;", 9, 4);
        edges.due("notes of 98 and 99", high.states(1, 0), 8);
        edges.due("by which they keep 99", high.states(2, 0), 8);
        edges.due("and go on to keep it", high.holds(3, 0), 0);
        Checks.text(high, "right 99; left 98; keep if gotleft=99 and gotright=98 or kept=99?99:0 end;"
            + "word if me=3 or me=5?9:kept end;");
        high.by(1);
        edges.due("HOUR 1, by what they got", high.holds(1, 0), 0);
        edges.due("HOUR 2", high.holds(2, 0), 1);
        edges.due("HOUR 3", high.holds(3, 0), 1);
    }

    /** What was asked ahead doesn't matter. */
    private void oneBehindAnother() {
        edges.sentence(Edges.TERMS, "STATES (what all KEEP and GOT, BELL) are gone through by HOURS");
        String text = "keep if gotleft>=0?gotleft+1:kept end; left if gotright=0?1:-1 end; word if bell=1?kept:0 end;";
        RingCouncil asked = council(text, 5, 1, 3);
        for (int i = 0; i < 40; i++) {
            int n = i * 5 % 4;
            int v = i * 7 % 3;
            RingCouncil fresh = council(text, 5, 1, 3);
            String call = "(" + n + ", " + v + ")";
            edges.due("states" + call, asked.states(n, v), fresh.states(n, v));
            edges.due("holds" + call, asked.holds(n, v), fresh.holds(n, v));
            asked.told(0, -1, -1);
            edges.due("suspects of others", asked.suspects(v) > 0, true);
            for (int which = 0; which < 6 && n > 0; which++) {
                edges.due("bad" + call, asked.bad(n, v, n - 1, which / 3, which % 3),
                    council(text, 5, 1, 3).bad(n, v, n - 1, which / 3, which % 3));
            }
            asked.forget();
        }
    }

    private void statesRefused() {
        edges.sentence("18", "NONE as HOLDS.");
        int[][] wrong = {{-1, 0}, {7, 0}, {LOW, 0}, {HIGH, 0}, {0, -1}, {0, 3}, {6, 3}, {0, LOW}, {0, HIGH}, {7, 3}};
        for (int[] w : wrong) {
            edges.changesNothing("states(" + w[0] + ", " + w[1] + ")", council -> council.states(w[0], w[1]), -1);
        }
        edges.due("two liars", council("", 9, 0, 8).states(0, 0), 1);
        edges.due("three liars", council("", 9, 0, 4, 8).states(0, 0), -1);
        edges.due("nine liars", council("", 9, 0, 1, 2, 3, 4, 5, 6, 7, 8).states(0, 0), -1);
        edges.due("too many hours, SPENT else", spent(JUST_2004).states(7, 0), -1);
    }

    private void due(RingCouncil council, int n, int v, int i, int liar, int... wants) {
        for (int what = 0; what < 3; what++) {
            edges.due("bad(" + n + ", " + v + ", " + i + ", " + liar + ", " + what + ")",
                council.bad(n, v, i, liar, what), wants[what]);
        }
    }

    private void bad() {
        edges.sentence("19", "BAD: of the i-th HOUR (0 .. n - 1) and a liar (0 the lower one, 1) 0 the note to the left (NONE), "
            + "1 to the right, 2 whether he pulls (1, 0).");
        RingCouncil six = council("keep if me=1 and hour=1 and gotleft=1?1:kept end;"
            + "word if kept=1 and gotleft=2 and hour=6?7:5 end;", 4, 0);
        due(six, 6, 2, 0, 0, -1, 1, 0);
        for (int i = 1; i < 5; i++) {
            due(six, 6, 2, i, 0, -1, -1, 0);
        }
        due(six, 6, 2, 5, 0, -1, 2, 0);
        RingCouncil lefts = council("word if gotright=2 and bell=1?7:5 end;", 3, 0);
        due(lefts, 1, 2, 0, 0, 2, -1, 1);
        RingCouncil zero = council("word if gotright=0?7:5 end;", 3, 0);
        due(zero, 1, 0, 0, 0, 0, -1, 0);
        RingCouncil any = council("word me;", 5, 4);
        due(any, 1, 2, 0, 0, -1, -1, 0);
        edges.sentence(Edges.TERMS, "BAD: the first STATE of HOUR n in which they don't: "
            + "what the liars did on the way to it as it was found.");
        RingCouncil either = council("word if gotleft=1 or gotright=0?7:5 end;", 4, 0);
        due(either, 1, 1, 0, 0, -1, 1, 0);
        RingCouncil pull = council("word if bell=1 or gotleft=0?7*me:0 end;", 4, 3);
        due(pull, 1, 0, 0, 0, -1, -1, 1);
        RingCouncil merged = council("keep if me=1 and hour=1 and gotleft>=0?1:kept end; word kept*5;", 4, 0);
        due(merged, 2, 2, 0, 0, -1, 0, 0);
        due(merged, 2, 2, 1, 0, -1, -1, 0);
    }

    private void badOfTwo() {
        edges.sentence("19", "BAD: of the i-th HOUR (0 .. n - 1) and a liar (0 the lower one, 1) 0 the note to the left (NONE), "
            + "1 to the right, 2 whether he pulls (1, 0).");
        RingCouncil both = council("word if bell=2?me:5 end;", 5, 4, 0);
        due(both, 1, 2, 0, 0, -1, -1, 1);
        due(both, 1, 2, 0, 1, -1, -1, 1);
        RingCouncil one = council("word if bell=1?me:5 end;", 5, 4, 0);
        due(one, 1, 1, 0, 0, -1, -1, 0);
        due(one, 1, 1, 0, 1, -1, -1, 1);
        one.stuck(4, true);
        due(one, 1, 1, 0, 0, -1, -1, 1);
        due(one, 1, 1, 0, 1, -1, -1, 0);
        RingCouncil notes = council("word if me=1 and gotleft=1?8:if me=3 and gotright=2?8:if me=2?8:5 end end end;", 5, 4, 0);
        due(notes, 1, 2, 0, 0, -1, -1, 0);
        edges.sentence(Edges.TERMS, "of the lower liar to the left (none, 0, ..), to the right, pulling (not, then so), "
            + "then of the other one (who changes fastest)");
        RingCouncil lower = council("word if me=1 and gotleft=1 or me=3 and gotright=2?8:5 end;", 5, 4, 0);
        due(lower, 1, 2, 0, 0, -1, -1, 0);
        due(lower, 1, 2, 0, 1, 2, -1, 0);
        lower.bar(2, true);
        due(lower, 1, 2, 0, 0, -1, 1, 0);
        due(lower, 1, 2, 0, 1, -1, -1, 0);
    }

    private void badRefused() {
        edges.sentence("19", "-3: it HOLDS, there is none such, and for others.");
        RingCouncil holds = council("word 5;", 4, 3);
        for (int n = 0; n <= 6; n++) {
            edges.due("it HOLDS, " + n, holds.bad(n, 0, 0, 0, 0), -3);
        }
        RingCouncil one = council("word me;", 4, 3);
        int[][] none = {{0, 0, 0, 0, 0}, {1, 0, 1, 0, 0}, {1, 0, -1, 0, 0}, {6, 0, 6, 0, 0}, {1, 0, 0, 1, 0}, {1, 0, 0, 2, 0},
            {1, 0, 0, -1, 0}, {1, 0, 0, 0, -1}, {1, 0, 0, 0, 3}, {7, 0, 0, 0, 0}, {-1, 0, 0, 0, 0}, {1, -1, 0, 0, 0},
            {1, 3, 0, 0, 0}, {HIGH, 0, 0, 0, 0}, {LOW, 0, 0, 0, 0}, {1, HIGH, 0, 0, 0}, {1, LOW, 0, 0, 0}, {1, 0, HIGH, 0, 0},
            {1, 0, LOW, 0, 0}, {1, 0, 0, HIGH, 0}, {1, 0, 0, LOW, 0}, {1, 0, 0, 0, HIGH}, {1, 0, 0, 0, LOW}};
        edges.due("there is one", one.bad(1, 0, 0, 0, 0), -1);
        for (int[] a : none) {
            String call = "bad(" + a[0] + ", " + a[1] + ", " + a[2] + ", " + a[3] + ", " + a[4] + ")";
            edges.due(call, one.bad(a[0], a[1], a[2], a[3], a[4]), -3);
            edges.changesNothing(call, () -> council("word me;", 4, 3), busy -> busy.bad(a[0], a[1], a[2], a[3], a[4]), -3);
        }
        edges.due("no liar at all", council("word me;", 4).bad(1, 0, 0, 0, 0), -3);
        edges.due("the second of two", council("word me;", 4, 1, 3).bad(1, 0, 0, 1, 0), -1);
        edges.due("a third of two", council("word me;", 4, 1, 3).bad(1, 0, 0, 2, 0), -3);
        edges.due("three liars", council("word me;", 5, 1, 2, 3).bad(1, 0, 0, 0, 0), -3);
    }

    private void badSpent() {
        edges.sentence("19", "SPENT.");
        edges.due("2000 are not too many", spent(JUST_2000).bad(6, 0, 0, 0, 2), 0);
        for (int i = 0; i < 6; i++) {
            for (int what = 0; what < 3; what++) {
                edges.due("2004 are", spent(JUST_2004).bad(6, 0, i, 0, what), -2);
            }
        }
        edges.due("an hour earlier", spent(JUST_2004).bad(5, 0, 0, 0, 2), 0);
        edges.changesNothing("SPENT", () -> spent(JUST_2004), council -> council.bad(6, 0, 0, 0, 0), -2);
        edges.due("others are -3, SPENT or not", spent(JUST_2004).bad(6, 0, 6, 0, 0), -3);
        edges.due("others are -3, SPENT or not", spent(JUST_2004).bad(6, 0, 0, 0, 3), -3);
    }

    private void telling() {
        edges.sentence("20", "TOLD: of a ROOM (another one: all that was told is forgotten ahead) what it GOT in the next HOUR "
            + "(left, right: NONE, 0 .. 99): how many HOURS are told.");
        for (int rooms = 3; rooms <= 9; rooms++) {
            RingCouncil council = new RingCouncil(rooms);
            int[][] told = {{-1, -1}, {0, 0}, {99, 99}, {-1, 99}, {99, -1}, {0, 99}, {99, 0}, {1, 1}};
            for (int i = 0; i < 8; i++) {
                edges.due("the first room", council.told(0, told[i][0], told[i][1]), i + 1);
            }
            edges.due("another one, there being 8", council.told(rooms - 1, -1, 99), 1);
            edges.abouts("another one", council, rooms, 0, 0, 0, -1, 0, 1, rooms - 1);
            edges.due("the same", council.told(rooms - 1, 0, 0), 2);
            edges.due("the first again", council.told(0, 0, 0), 1);
            edges.due("and another", council.told(1, 0, 0), 1);
        }
        RingCouncil council = council("", 3);
        council.told(0, 7, 7);
        council.told(1, -1, -1);
        edges.due("what was told ahead is forgotten", council.suspects(0), 512 + 1 + 4);
    }

    private void tellingRefused() {
        edges.sentence("20", "NONE for others, or if there are 8.");
        int[][] wrong = {{-1, 0, 0}, {5, 0, 0}, {LOW, 0, 0}, {HIGH, 0, 0}, {2, -2, 0}, {2, 100, 0}, {2, LOW, 0}, {2, HIGH, 0},
            {2, 0, -2}, {2, 0, 100}, {2, 0, LOW}, {2, 0, HIGH}, {3, -2, 0}, {3, 0, 100}, {9, 0, 0}};
        for (int[] w : wrong) {
            edges.changesNothing("told(" + w[0] + ", " + w[1] + ", " + w[2] + ")", council -> council.told(w[0], w[1], w[2]), -1);
        }
        edges.changesNothing("a ninth", () -> eight(1), council -> council.told(1, 0, 0), -1);
        edges.changesNothing("a ninth that is as the others", () -> eight(1), council -> council.told(1, -1, -1), -1);
        edges.changesNothing("another room, wrongly", () -> eight(1), council -> council.told(0, 100, 0), -1);
        RingCouncil council = eight(2);
        edges.due("a ninth", council.told(2, 0, 0), -1);
        edges.due("a tenth", council.told(2, 0, 0), -1);
        edges.due("8", council.about(6), 8);
    }

    /** Eight hours are told of a room, all of them of no notes. */
    private static RingCouncil eight(int room) {
        RingCouncil council = new RingCouncil(3);
        for (int i = 0; i < 8; i++) {
            council.told(room, -1, -1);
        }
        return council;
    }

    private void forgetting() {
        edges.sentence("21", "Nothing is TOLD: how many HOURS were.");
        edges.changesNothing("of none", () -> new RingCouncil(3), RingCouncil::forget, 0);
        for (int hours = 1; hours <= 8; hours++) {
            RingCouncil council = new RingCouncil(3);
            for (int i = 0; i < hours; i++) {
                council.told(2, 5, 5);
            }
            edges.due("of " + hours, council.forget(), hours);
            edges.abouts("nothing", council, 3, 0, 0, 0, -1, 0, 0, -1);
            edges.due("nothing", council.suspects(0), -1);
            edges.due("again", council.forget(), 0);
            edges.due("the same room begins anew", council.told(2, -1, -1), 1);
            edges.due("by the new one alone", council.suspects(0), 512 + 1 + 2);
        }
    }

    private void suspects() {
        edges.sentence("22", "SUSPECTS (bits; v 0 .. 2).");
        for (int rooms = 3; rooms <= 9; rooms++) {
            for (int room = 0; room < rooms; room++) {
                int left = (room + rooms - 1) % rooms;
                int right = (room + 1) % rooms;
                RingCouncil council = new RingCouncil(rooms);
                council.told(room, -1, -1);
                edges.due("all others, and nobody", council.suspects(0), 512 + (1 << rooms) - 1 - (1 << room));
                for (int note = 0; note <= 3; note++) {
                    council.forget();
                    council.told(room, note, -1);
                    for (int v = 0; v <= 2; v++) {
                        edges.due(note + " from the left, v " + v, council.suspects(v), note <= v ? 1 << left : 0);
                    }
                }
                council.forget();
                council.told(room, -1, 2);
                edges.due("from the right, v 1", council.suspects(1), 0);
                edges.due("from the right, v 2", council.suspects(2), 1 << right);
                council.forget();
                council.told(room, 0, 0);
                edges.due("from both", council.suspects(2), 0);
            }
        }
    }

    private void suspectsRefused() {
        edges.sentence("22", "NONE for others, and if nothing is TOLD.");
        int[] wrong = {-1, 3, LOW, HIGH};
        for (int v : wrong) {
            edges.changesNothing("suspects(" + v + ")", council -> council.suspects(v), -1);
            edges.due("nothing TOLD", new RingCouncil(3).suspects(v), -1);
        }
        for (int v = 0; v <= 2; v++) {
            int note = v;
            edges.changesNothing("nothing TOLD", () -> council("left 1;", 4, 1), council -> council.suspects(note), -1);
        }
        RingCouncil council = eight(0);
        edges.due("TOLD", council.suspects(0), 512 + 2 + 4);
        council.forget();
        edges.due("nothing TOLD any more", council.suspects(0), -1);
    }

    private void suspectsTold() {
        edges.sentence(Edges.TERMS, "TOLD: what one ROOM GOT in HOURS 1, 2, .. (8 at most; from the left and the right).");
        for (int hours = 1; hours <= 8; hours++) {
            RingCouncil council = council("left hour; right hour+50;", 4);
            for (int i = 0; i < hours; i++) {
                council.told(2, i + 50, i);
            }
            edges.due("as it is, " + hours, council.suspects(2) / 512, 1);
            council.forget();
            for (int i = 0; i < hours; i++) {
                council.told(2, i + 50, i == hours - 1 ? 40 : i);
            }
            edges.due("the last is unlike, " + hours, council.suspects(2), 0);
        }
        edges.sentence(Edges.TERMS, "the others being as told, but none of them a liar: those who are, sound");
        RingCouncil council = council("left 5; right 6;", 5, 0, 1, 2, 3, 4);
        council.told(2, 6, 5);
        edges.due("though all are liars", council.suspects(0), 512 + 1 + 16);
        council.elder(0, 2, 0);
        edges.due("a sleeper may be one", council.suspects(0), 512 + 1 + 16);
        council.elder(1, 2, 0);
        edges.due("a sleeper doesn't write 6", council.suspects(2), 0);
        council.forget();
        council.told(2, 2, 5);
        edges.due("but he may lie 2", council.suspects(2), 2);
        council.lies(1, 2, 2, true);
        edges.due("whatever was told of lies", council.suspects(1), 0);
        for (int liar = 0; liar < 5; liar++) {
            RingCouncil one = council("left 5; right 6;", 5, liar);
            one.told((liar + 1) % 5, 6, 5);
            edges.due("a liar in " + liar + " is sound", one.suspects(0) / 512, 1);
        }
    }

    private void suspectsSpent() {
        edges.sentence(Edges.TERMS, "(STATES as above; of 2001 in an HOUR: it counts as one)");
        String[] texts = {JUST_2000, JUST_2004};
        for (int which = 0; which < 2; which++) {
            RingCouncil council = Checks.council(texts[which], new int[4]);
            council.stuck(0, true);
            for (int i = 0; i < 6; i++) {
                council.told(2, -1, -1);
            }
            edges.due("so far all may lie", council.suspects(0), 512 + 1 + 2 + 8);
            council.told(2, 5, -1);
            edges.due("nobody writes 5", council.suspects(0), which);
            council.told(2, -1, -1);
            edges.due("nobody writes 5", council.suspects(0), which);
        }
    }

    /** What a suspect beside the room may write there is told, so three notes are left to him. */
    private void suspectsJustSpent() {
        edges.sentence(Edges.TERMS, "(STATES as above; of 2001 in an HOUR: it counts as one)");
        String[] texts = {JUST_1998, JUST_2001};
        for (int which = 0; which < 2; which++) {
            RingCouncil council = Checks.council(texts[which], new int[4]);
            edges.due("it can be read", council.about(4), 0);
            council.stuck(1, true);
            for (int i = 0; i < 7; i++) {
                council.told(0, -1, -1);
            }
            edges.due("so far all may lie", council.suspects(1), 512 + 2 + 4 + 8);
            council.told(0, 5, -1);
            edges.due("nobody writes 5", council.suspects(1), which == 0 ? 0 : 2);
        }
    }

    private void nobodyLies() {
        edges.sentence(Edges.TERMS, "and 512, if it is so with nobody lying");
        RingCouncil council = council("right 1;", 3);
        council.told(0, 1, -1);
        edges.due("nobody", council.suspects(0), 512 + 2);
        council.told(0, -1, -1);
        edges.due("somebody", council.suspects(0), 0);
        edges.due("who may write 1", council.suspects(1), 4);
    }
}
