/** The edges of hours that go by and are taken back: promises 11 to 16, and terms I, III and IV. */
final class HourEdges {

    private static final int LOW = Edges.LOW;
    private static final int HIGH = Edges.HIGH;

    private final Edges edges;

    HourEdges(Edges edges) {
        this.edges = edges;
    }

    void all() {
        starting();
        hours();
        hoursRefused();
        undoing();
        undoRefused();
        forty();
        rooms();
        roomsRefused();
        agreeing();
        agreements();
        agreementsRefused();
        notes();
        keeping();
        writing();
        pulling();
        saying();
        kinds();
        last();
    }

    /** Keeps how many hours went by, 99 at most; each pulls in each third hour. */
    private static RingCouncil counting(int hours) {
        RingCouncil council = Checks.council("keep kept+1; right kept; rope hour/3*3=hour; word me;", 0, 0, 0);
        int gone = 0;
        while (gone < hours) {
            gone = council.hours(Math.min(99, hours - gone));
        }
        return council;
    }

    private void starting() {
        edges.sentence("11", "THE START: how many HOURS had gone by.");
        edges.due("of a new one", new RingCouncil(3).start(), 0);
        int[] gone = {0, 1, 40, 41, 99, 100, 998, 999};
        for (int hours : gone) {
            RingCouncil council = counting(hours);
            council.elder(1, 0, 9);
            edges.due("behind " + hours, council.start(), hours);
            edges.room("keeps FIRST, no notes", council, 0, 0, -1, -1);
            edges.room("keeps FIRST, no notes", council, 1, 9, -1, -1);
            edges.abouts("HOUR 0, no pulls", council, 3, 0, 0, 1, 0, 0);
            edges.due("again", council.start(), 0);
        }
    }

    private void hours() {
        edges.sentence("12", "So many HOURS (1 .. 99): HOUR.");
        RingCouncil council = counting(0);
        edges.due("the fewest", council.hours(1), 1);
        edges.room("one went by", council, 0, 1, 0, -1);
        edges.due("the most", council.hours(99), 100);
        edges.room("99 went by", council, 0, 99, 99, -1);
        edges.due("98", council.hours(98), 198);
        edges.due("to the last", counting(900).hours(99), 999);
        edges.due("to the last", counting(998).hours(1), 999);
    }

    private void hoursRefused() {
        edges.sentence("12", "NONE for others, and beyond 999.");
        int[] wrong = {0, -1, -99, 100, 101, LOW, HIGH};
        for (int n : wrong) {
            edges.changesNothing("hours(" + n + ")", council -> council.hours(n), -1);
        }
        int[][] beyond = {{999, 1}, {999, 99}, {998, 2}, {901, 99}, {950, 50}, {999, 0}, {999, -1}, {999, HIGH}, {999, LOW}};
        for (int[] b : beyond) {
            edges.changesNothing(b[1] + " behind " + b[0], () -> counting(b[0]), council -> council.hours(b[1]), -1);
        }
        RingCouncil council = counting(990);
        edges.due("beyond", council.hours(10), -1);
        edges.due("none of them went by", council.about(1), 990);
        edges.due("fewer do", council.hours(9), 999);
    }

    private void undoing() {
        edges.sentence("13", "The latest HOUR is taken back: HOUR.");
        int[] gone = {1, 2, 39, 40, 41, 80, 81, 120, 999};
        for (int hours : gone) {
            RingCouncil council = counting(hours);
            RingCouncil ahead = counting(hours - 1);
            edges.due("one of " + hours, council.undo(), hours - 1);
            for (int room = 0; room < 3; room++) {
                edges.room("as the hour ahead", council, room, ahead.of(room, 0), ahead.of(room, 1), ahead.of(room, 2));
            }
            edges.due("its BELL", council.about(2), ahead.about(2));
        }
        RingCouncil council = counting(3);
        council.elder(0, 2, 7);
        council.bar(5, true);
        council.undo();
        edges.room("what was told stays", council, 0, 2, 1, -1, 0, 2, 7);
        edges.due("what was told stays", council.about(9), 1);
        edges.due("to THE START", council.undo(), 1);
        edges.due("to THE START", council.undo(), 0);
        edges.room("with the FIRST it had", council, 0, 0, -1, -1);
    }

    private void undoRefused() {
        edges.sentence("13", "NONE: there is none.");
        edges.changesNothing("of a new one", () -> new RingCouncil(3), RingCouncil::undo, -1);
        edges.changesNothing("of a start", () -> started(counting(60)), RingCouncil::undo, -1);
        edges.changesNothing("of all that were kept", () -> undone(counting(41), 40), RingCouncil::undo, -1);
        edges.changesNothing("of all", () -> undone(counting(40), 40), RingCouncil::undo, -1);
        edges.changesNothing("of one", () -> undone(counting(1), 1), RingCouncil::undo, -1);
        RingCouncil council = undone(counting(41), 40);
        council.undo();
        council.hours(1);
        edges.due("one more can be", council.undo(), 1);
        edges.due("no other", council.undo(), -1);
    }

    private static RingCouncil started(RingCouncil council) {
        council.start();
        return council;
    }

    private static RingCouncil undone(RingCouncil council, int times) {
        for (int i = 0; i < times; i++) {
            council.undo();
        }
        return council;
    }

    private void forty() {
        edges.sentence(Edges.TERMS, "(40 are kept, the oldest goes; THE START forgets all)");
        int[][] kept = {{0, 0}, {1, 1}, {39, 39}, {40, 40}, {41, 40}, {80, 40}, {99, 40}, {999, 40}};
        for (int[] k : kept) {
            RingCouncil council = counting(k[0]);
            edges.due("of " + k[0], council.about(5), k[1]);
            for (int i = 1; i <= k[1]; i++) {
                edges.due("taken back of " + k[0], council.undo(), k[0] - i);
                edges.due("kept then", council.of(2, 0), Math.min(99, k[0] - i));
                edges.due("can be taken back", council.about(5), k[1] - i);
            }
            edges.due("no more of " + k[0], council.undo(), -1);
            edges.due("HOUR", council.about(1), k[0] - k[1]);
        }
        RingCouncil council = undone(counting(100), 15);
        council.hours(10);
        edges.due("25 and 10", council.about(5), 35);
        council.hours(7);
        edges.due("40 again", council.about(5), 40);
        undone(council, 40);
        edges.due("the oldest that was kept", council.about(1), 62);
        edges.due("no more", council.undo(), -1);
        council = started(counting(100));
        edges.due("THE START forgets all", council.about(5), 0);
        council.hours(2);
        undone(council, 3);
        edges.due("to THE START", council.about(1), 0);
    }

    private void rooms() {
        edges.sentence("14", "Of a ROOM: 0 what he KEEPS, 1, 2 GOT from the left, the right (NONE), 3 what he SAYS, 4 KIND, "
            + "5 FIRST, 6 whether his rope is STUCK (1, 0).");
        for (int rooms = 3; rooms <= 9; rooms++) {
            RingCouncil council = Checks.council("left 0; keep 99; word 9;", new int[rooms]);
            council.elder(rooms - 1, 2, 9);
            council.stuck(rooms - 1, true);
            council.hours(1);
            edges.room("the first of " + rooms, council, 0, 99, -1, 0, 9, 0, 0, 0);
            edges.room("the last of " + rooms, council, rooms - 1, 0, -1, 0, 9, 2, 9, 1);
            edges.room("the one ahead of the last", council, rooms - 2, 99, -1, -1, 9, 0, 0, 0);
        }
        RingCouncil high = Checks.council("right 99;", 0, 0, 0);
        high.hours(1);
        edges.room("a note of 99", high, 0, 0, 99, -1, 0);
    }

    private void roomsRefused() {
        edges.sentence("14", "-2 for others.");
        int[][] wrong = {{-1, 0}, {5, 0}, {5, 6}, {LOW, 0}, {HIGH, 0}, {0, -1}, {0, 7}, {4, 7}, {0, LOW}, {0, HIGH}, {-1, 7},
            {9, 4}};
        for (int[] w : wrong) {
            edges.changesNothing("of(" + w[0] + ", " + w[1] + ")", council -> council.of(w[0], w[1]), -2);
        }
        for (int rooms = 3; rooms <= 9; rooms++) {
            edges.due("beyond the last of " + rooms, new RingCouncil(rooms).of(rooms, 4), -2);
        }
    }

    private void agreeing() {
        edges.sentence("15", "Whether THEY AGREE.");
        edges.due("a new one", new RingCouncil(9).agree(), true);
        for (int rooms = 3; rooms <= 9; rooms++) {
            for (int room = 0; room < rooms; room++) {
                RingCouncil council = Checks.council("", new int[rooms]);
                council.elder(room, 0, 1);
                edges.due("not yet unlike", council.agree(), true);
                council.start();
                edges.due("one is unlike", council.agree(), false);
            }
        }
        edges.changesNothing("in the midst", council -> council.agree() ? 1 : 0, 0);
        edges.sentence(Edges.TERMS, "THEY AGREE, if all sound ones SAY the same (also if there are none).");
        RingCouncil council = Checks.council("", 1, 2, 3);
        council.elder(0, 1, 1);
        edges.due("two sound ones", council.agree(), false);
        council.elder(1, 2, 2);
        edges.due("one sound one", council.agree(), true);
        council.elder(2, 1, 3);
        edges.due("no sound one", council.agree(), true);
        council.elder(0, 0, 1);
        council.elder(1, 0, 2);
        edges.due("two sound ones", council.agree(), false);
        Checks.text(council, "word kept+8;");
        council.by(0);
        edges.due("9 at most", council.agree(), true);
    }

    private void agreements() {
        edges.sentence("16", "0 AGREES, 1 NOTES.");
        edges.due("a new one", new RingCouncil(3).agrees(0), 0);
        edges.due("a new one", new RingCouncil(3).agrees(1), 0);
        edges.changesNothing("AGREES in the midst", council -> council.agrees(0), agreesWhenStarted(0));
        edges.changesNothing("NOTES in the midst", council -> council.agrees(1), agreesWhenStarted(1));
        edges.sentence(Edges.TERMS, "the first HOUR (0 .. 40) at which THEY AGREE, and do so at each HOUR behind it to 40");
        int[][] unlikeAt = {{0, 1}, {1, 2}, {38, 39}, {39, 40}, {40, -1}, {41, 0}, {42, 0}};
        for (int[] u : unlikeAt) {
            RingCouncil council = Checks.council("left 1; word if hour=" + u[0] + "?me:5 end;", 0, 0, 0);
            edges.due("unlike at " + u[0], council.agrees(0), u[1]);
            edges.due("notes of 3 an hour", council.agrees(1), u[1] < 0 ? -1 : u[1] * 3);
        }
        RingCouncil council = Checks.council("word if hour=3 or hour=17 or hour>40?me:5 end;", 0, 0, 0);
        edges.due("behind the last at which they don't", council.agrees(0), 18);
        council = Checks.council("word if hour<40?me:5 end;", 0, 0, 0);
        edges.due("at 40 alone", council.agrees(0), 40);
    }

    private static int agreesWhenStarted(int what) {
        RingCouncil council = Edges.busy();
        council.start();
        return council.agrees(what);
    }

    private void agreementsRefused() {
        edges.sentence("16", "NONE: never, and for others.");
        RingCouncil never = Checks.council("left 1; word if hour<41?me:5 end;", 0, 0, 0);
        edges.due("never to 40", never.agrees(0), -1);
        edges.due("so no NOTES", never.agrees(1), -1);
        RingCouncil council = Checks.council("left 1; word if hour=40?me:5 end;", 0, 0, 0);
        edges.due("not at 40", council.agrees(0), -1);
        edges.due("so no NOTES", council.agrees(1), -1);
        int[] wrong = {-1, 2, 3, LOW, HIGH};
        for (int what : wrong) {
            edges.changesNothing("agrees(" + what + ")", busy -> busy.agrees(what), -1);
            edges.due("of a new one, agrees(" + what + ")", new RingCouncil(3).agrees(what), -1);
        }
    }

    private void notes() {
        edges.sentence(Edges.TERMS, "NOTES: how many notes were put down (those that came through) till then.");
        RingCouncil council = Checks.council("left 0; right 99; word if hour=39?me:5 end;", new int[9]);
        edges.due("the most: 18 in each of 40", council.agrees(1), 720);
        council.bar(99, true);
        edges.due("half of them came through", council.agrees(1), 360);
        council.bar(0, true);
        edges.due("none came through", council.agrees(1), 0);
        edges.due("but they agree", council.agrees(0), 40);
        council.elder(3, 1, 0);
        council.lies(3, 99, 50, true);
        edges.due("a liar's too, unless barred", council.agrees(1), 40);
        council.elder(3, 2, 0);
        edges.due("a sleeper has none", council.agrees(1), 0);
        RingCouncil once = Checks.council("left if hour=1?1:-1 end; right if hour=2?1:-1 end; word if hour=1?me:5 end;", 0, 0, 0);
        edges.due("of HOUR 1, but not of HOUR 2", once.agrees(1), 3);
        edges.due("AGREES", once.agrees(0), 2);
    }

    private void keeping() {
        edges.sentence(Edges.TERMS, "a sound one KEEPS keep (0 at least, 99 at most; without: what he KEEPS)");
        String[] sums = {"-1", "-(1000*1000)", "0", "1", "98", "99", "100", "1000*1000", "kept-9", "kept+91"};
        int[] wants = {0, 0, 0, 1, 98, 99, 99, 99, 0, 99};
        for (int i = 0; i < sums.length; i++) {
            RingCouncil council = Checks.council("keep " + sums[i] + ";", 8, 8, 8);
            council.hours(1);
            edges.due("keep " + sums[i], council.of(2, 0), wants[i]);
        }
        RingCouncil without = Checks.council("left 1; right 2; rope 1=1; word 3;", 8, 9, 0);
        without.hours(9);
        edges.room("without", without, 0, 8);
        edges.room("without", without, 1, 9);
        edges.room("without", without, 2, 0);
    }

    private void writing() {
        edges.sentence(Edges.TERMS, "writes left to the left and right to the right (below 0: none; 99 at most; without: none)");
        String[] sums = {"-1", "-2", "-(1000*1000)", "0", "1", "98", "99", "100", "1000*1000"};
        int[] wants = {-1, -1, -1, 0, 1, 98, 99, 99, 99};
        for (int i = 0; i < sums.length; i++) {
            RingCouncil lefts = Checks.council("left " + sums[i] + ";", 0, 0, 0);
            lefts.hours(1);
            edges.room("left " + sums[i], lefts, 0, 0, -1, wants[i]);
            RingCouncil rights = Checks.council("right " + sums[i] + ";", 0, 0, 0);
            rights.hours(1);
            edges.room("right " + sums[i], rights, 0, 0, wants[i], -1);
        }
        RingCouncil high = Checks.council("left 150; right 99;", 0, 0, 0);
        high.bar(99, true);
        high.hours(1);
        edges.room("what is cut to 99 is barred with it", high, 0, 0, -1, -1);
        RingCouncil once = Checks.council("left if hour=0?4:-1 end; right gotright;", 0, 0, 0);
        once.hours(1);
        edges.room("in the hour behind", once, 1, 0, -1, 4);
        once.hours(1);
        edges.room("all at once, and no longer", once, 1, 0, 4, -1);
        once.hours(1);
        edges.room("nothing is left", once, 1, 0, -1, -1);
    }

    private void pulling() {
        edges.sentence(Edges.TERMS, "pulls, if a rope clause is so");
        String[] ropes = {"rope 1=0;", "rope 1=1;", "rope 1=1;rope 1=1;", "rope 1=0;rope 1=1;", "rope 1=1;rope 1=0;",
            "rope 1=0;rope 1=0;", "keep 1;"};
        int[] wants = {0, 9, 9, 9, 9, 0, 0};
        for (int i = 0; i < ropes.length; i++) {
            RingCouncil council = Checks.council(ropes[i], new int[9]);
            council.hours(1);
            edges.due(ropes[i], council.about(2), wants[i]);
        }
        edges.sentence(Edges.TERMS, "A BARRED note is none; a pull of one whose rope is STUCK doesn't count.");
        RingCouncil council = Checks.council("rope 1=1; left 4; right 5;", new int[9]);
        council.bar(4, true);
        for (int room = 0; room < 9; room++) {
            council.stuck(room, true);
            council.hours(1);
            edges.due("pulls that count", council.about(2), 8 - room);
            edges.room("the one that isn't barred", council, room, 0, 5, -1);
        }
        council.elder(0, 1, 0);
        council.lies(0, 4, 4, true);
        council.hours(1);
        edges.due("nor a liar's", council.about(2), 0);
        edges.room("nor a liar's", council, 1, 0, -1, -1);
        council.stuck(0, false);
        council.hours(1);
        edges.due("a liar's counts", council.about(2), 1);
    }

    private void saying() {
        edges.sentence(Edges.TERMS, "SAYS: word (0 at least, 9 at most; without: what he KEEPS, 9 at most), of each, "
            + "whatever his KIND.");
        String[] sums = {"-1", "-(1000*1000)", "0", "1", "8", "9", "10", "1000*1000"};
        int[] wants = {0, 0, 0, 1, 8, 9, 9, 9};
        for (int i = 0; i < sums.length; i++) {
            RingCouncil council = Checks.council("word " + sums[i] + ";", 4, 4, 4);
            council.elder(1, 1, 4);
            council.elder(2, 2, 4);
            for (int room = 0; room < 3; room++) {
                edges.due("word " + sums[i] + " of KIND " + room, council.of(room, 3), wants[i]);
            }
        }
        int[] keeps = {0, 1, 8, 9, 10, 11, 98, 99};
        for (int keep : keeps) {
            RingCouncil council = Checks.council("keep " + keep + ";", 4, 4, 4);
            council.hours(1);
            council.elder(1, 1, 4);
            council.elder(2, 2, 4);
            for (int room = 0; room < 3; room++) {
                edges.due("keeps " + keep + " of KIND " + room, council.of(room, 3), Math.min(9, keep));
            }
        }
    }

    private void kinds() {
        edges.sentence(Edges.TERMS, "A liar writes and pulls what he LIES, and KEEPS what he KEEPS; a sleeper does nothing.");
        RingCouncil council = Checks.council("left 1; right 2; keep kept+1; rope 1=1;", 3, 3, 3, 3);
        council.elder(1, 1, 9);
        council.lies(1, 0, 99, false);
        council.elder(3, 2, 9);
        council.lies(3, 5, 5, true);
        council.hours(2);
        edges.room("between the sleeper and the liar", council, 0, 5, -1, 0);
        edges.room("the liar", council, 1, 3, 2, 1);
        edges.room("between the liar and the sleeper", council, 2, 5, 99, -1);
        edges.room("the sleeper", council, 3, 3, 2, 1);
        edges.due("the sound ones' pulls", council.about(2), 2);
        council.elder(1, 0, 9);
        council.elder(3, 0, 9);
        council.hours(1);
        edges.room("sound from now on", council, 1, 4, 2, 1);
        edges.room("sound from now on", council, 0, 6, 2, 1);
        edges.due("all pull", council.about(2), 4);
    }

    private void last() {
        edges.sentence(Edges.TERMS, "Then HOUR is one more (999 at most: there is none behind it).");
        RingCouncil council = Checks.council("keep hour-950; word hour-990;", 0, 0, 0);
        for (int i = 0; i < 10; i++) {
            council.hours(99);
        }
        edges.room("by HOUR 989", council, 0, 39, -1, -1, 0);
        edges.due("one more", council.hours(8), 998);
        edges.room("by HOUR 997", council, 0, 47, -1, -1, 8);
        edges.due("the last", council.hours(1), 999);
        edges.room("by HOUR 998", council, 0, 48, -1, -1, 9);
        edges.due("none behind it", council.hours(1), -1);
        edges.room("as it was", council, 0, 48, -1, -1, 9);
        edges.due("taken back", council.undo(), 998);
        edges.due("the last again", council.hours(1), 999);
    }
}
