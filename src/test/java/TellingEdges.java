/** The edges of a new object and of what is told: promises 1 to 5 and 10, and terms I. */
final class TellingEdges {

    private static final int LOW = Edges.LOW;
    private static final int HIGH = Edges.HIGH;

    private final Edges edges;

    TellingEdges(Edges edges) {
        this.edges = edges;
    }

    void all() {
        newObject();
        imageOfNew();
        elders();
        eldersRefused();
        ropes();
        ropesRefused();
        lies();
        liesRefused();
        bars();
        barsRefused();
        ruling();
        rulingRefused();
        ring();
        atFirst();
        underWay();
    }

    private void newObject() {
        edges.sentence("1", "R ROOMS (3 to 9; others: the nearest of these); THE IMAGE is this.");
        int[][] asked = {{LOW, 3}, {-9, 3}, {-1, 3}, {0, 3}, {1, 3}, {2, 3}, {3, 3}, {4, 4}, {5, 5}, {6, 6}, {7, 7},
            {8, 8}, {9, 9}, {10, 9}, {11, 9}, {259, 9}, {HIGH, 9}};
        for (int[] pair : asked) {
            RingCouncil council = new RingCouncil(pair[0]);
            edges.due("rooms of " + pair[0], council.about(0), pair[1]);
            edges.due("the last room of " + pair[0], council.of(pair[1] - 1, 0), 0);
            edges.due("no room more of " + pair[0], council.of(pair[1], 0), -2);
        }
    }

    private void imageOfNew() {
        edges.sentence("1", "R ROOMS (3 to 9; others: the nearest of these); THE IMAGE is this.");
        for (int rooms = 3; rooms <= 9; rooms++) {
            RingCouncil council = new RingCouncil(rooms);
            council.elder(rooms - 1, 1, 9);
            council.elder(0, 2, 8);
            council.lies(rooms - 1, 4, 5, true);
            council.stuck(1, true);
            council.bar(5, true);
            council.start();
            council.hours(50);
            council.told(1, 4, 4);
            edges.due("back to the new one", council.back(), 0);
            edges.same("as new", council, new RingCouncil(rooms));
        }
        RingCouncil council = Checks.council("word 3;", 0, 0, 0);
        council.back();
        edges.abouts("a new one has no text", council, 3, 0, 0, 0, -1);
        edges.due("nor can one be told", council.by(0), false);
    }

    private void elders() {
        edges.sentence("2", "KIND and FIRST of a ROOM's ELDER: true.");
        for (int rooms = 3; rooms <= 9; rooms++) {
            RingCouncil council = new RingCouncil(rooms);
            int[][] told = {{0, 2, 9}, {0, 0, 0}, {rooms - 1, 0, 9}, {rooms - 1, 1, 0}, {1, 2, 0}, {1, 1, 9}};
            for (int[] t : told) {
                edges.due("the least and the greatest", council.elder(t[0], t[1], t[2]), true);
                edges.due("KIND", council.of(t[0], 4), t[1]);
                edges.due("FIRST", council.of(t[0], 5), t[2]);
            }
        }
    }

    private void eldersRefused() {
        edges.sentence("2", "False for others.");
        int[][] wrong = {{-1, 0, 1}, {5, 0, 1}, {LOW, 0, 1}, {HIGH, 0, 1}, {0, -1, 1}, {0, 3, 1}, {0, LOW, 1},
            {0, HIGH, 1}, {0, 2, -1}, {0, 2, 10}, {0, 2, LOW}, {0, 2, HIGH}, {4, 3, 10}};
        for (int[] w : wrong) {
            edges.changesNothing("elder(" + w[0] + ", " + w[1] + ", " + w[2] + ")",
                council -> council.elder(w[0], w[1], w[2]) ? 1 : 0, 0);
        }
        for (int rooms = 3; rooms <= 9; rooms++) {
            edges.due("beyond the last of " + rooms, new RingCouncil(rooms).elder(rooms, 0, 0), false);
        }
    }

    private void ropes() {
        edges.sentence("3", "A rope is STUCK, or not: true.");
        for (int rooms = 3; rooms <= 9; rooms++) {
            RingCouncil council = new RingCouncil(rooms);
            edges.due("the first", council.stuck(0, true), true);
            edges.due("the last", council.stuck(rooms - 1, true), true);
            edges.due("again", council.stuck(0, true), true);
            edges.due("the last is", council.of(rooms - 1, 6), 1);
            edges.due("no longer", council.stuck(rooms - 1, false), true);
            edges.due("wasn't", council.stuck(1, false), true);
            edges.due("the first is", council.of(0, 6), 1);
            edges.due("the second isn't", council.of(1, 6), 0);
            edges.due("the last isn't", council.of(rooms - 1, 6), 0);
        }
    }

    private void ropesRefused() {
        edges.sentence("3", "False for others.");
        int[] wrong = {-1, 5, LOW, HIGH};
        for (int room : wrong) {
            edges.changesNothing("stuck(" + room + ", true)", council -> council.stuck(room, true) ? 1 : 0, 0);
            edges.changesNothing("stuck(" + room + ", false)", council -> council.stuck(room, false) ? 1 : 0, 0);
        }
        for (int rooms = 3; rooms <= 9; rooms++) {
            edges.due("beyond the last of " + rooms, new RingCouncil(rooms).stuck(rooms, true), false);
        }
    }

    private void lies() {
        edges.sentence("4", "What a ROOM's ELDER LIES: true.");
        int[][] told = {{0, -1, 99, 1}, {0, 99, -1, 0}, {0, 0, 0, 1}, {3, -1, -1, 0}, {3, 0, 99, 1}, {3, 99, 0, 1}};
        for (int[] t : told) {
            RingCouncil council = new RingCouncil(4);
            council.elder(t[0], 1, 0);
            edges.due("the least and the greatest", council.lies(t[0], t[1], t[2], t[3] == 1), true);
            council.hours(1);
            edges.due("to the left", council.of((t[0] + 3) % 4, 2), t[1]);
            edges.due("to the right", council.of((t[0] + 1) % 4, 1), t[2]);
            edges.due("pulls", council.about(2), t[3]);
        }
    }

    private void liesRefused() {
        edges.sentence("4", "False for others.");
        int[][] wrong = {{-1, 3, 4}, {5, 3, 4}, {LOW, 3, 4}, {HIGH, 3, 4}, {1, -2, 4}, {1, 100, 4}, {1, LOW, 4},
            {1, HIGH, 4}, {1, 3, -2}, {1, 3, 100}, {1, 3, LOW}, {1, 3, HIGH}, {0, 100, -2}};
        for (int[] w : wrong) {
            edges.changesNothing("lies(" + w[0] + ", " + w[1] + ", " + w[2] + ", true)",
                council -> council.lies(w[0], w[1], w[2], true) ? 1 : 0, 0);
            edges.changesNothing("lies(" + w[0] + ", " + w[1] + ", " + w[2] + ", false)",
                council -> council.lies(w[0], w[1], w[2], false) ? 1 : 0, 0);
        }
        for (int rooms = 3; rooms <= 9; rooms++) {
            edges.due("beyond the last of " + rooms, new RingCouncil(rooms).lies(rooms, 0, 0, false), false);
        }
    }

    private void bars() {
        edges.sentence("5", "A note is BARRED, or not: true.");
        RingCouncil council = new RingCouncil(3);
        for (int note = 0; note <= 99; note++) {
            edges.due("bar " + note, council.bar(note, true), true);
            edges.due("BARRED", council.about(9), note + 1);
        }
        edges.due("all are, and one again", council.bar(99, true), true);
        edges.due("BARRED", council.about(9), 100);
        edges.due("the least no longer", council.bar(0, false), true);
        edges.due("the greatest no longer", council.bar(99, false), true);
        edges.due("nor again", council.bar(99, false), true);
        edges.due("BARRED", council.about(9), 98);
        int[][] notes = {{0, 0}, {1, -1}, {98, -1}, {99, 99}};
        council.elder(0, 1, 0);
        for (int[] n : notes) {
            council.lies(0, n[0], n[0], false);
            council.hours(1);
            edges.due("to the left comes " + n[0], council.of(2, 2), n[1]);
            edges.due("to the right comes " + n[0], council.of(1, 1), n[1]);
        }
    }

    private void barsRefused() {
        edges.sentence("5", "False for others.");
        int[] wrong = {-1, 100, LOW, HIGH};
        for (int note : wrong) {
            edges.changesNothing("bar(" + note + ", true)", council -> council.bar(note, true) ? 1 : 0, 0);
            edges.changesNothing("bar(" + note + ", false)", council -> council.bar(note, false) ? 1 : 0, 0);
        }
    }

    private void ruling() {
        edges.sentence("10", "THE TEXT (NONE: none): true.");
        RingCouncil council = new RingCouncil(3);
        edges.due("none, ahead of any", council.by(-1), true);
        edges.due("none", council.about(4), -1);
        for (int text = 0; text < 4; text++) {
            Checks.text(council, "word " + (text + 1) + ";");
            edges.due("the latest", council.by(text), true);
            edges.due("the latest", council.about(4), text);
            edges.due("its word", council.of(0, 3), text + 1);
        }
        edges.due("the first again", council.by(0), true);
        edges.due("its word", council.of(2, 3), 1);
        edges.due("none again", council.by(-1), true);
        edges.due("none", council.about(4), -1);
        edges.due("without a word he says what he keeps", council.of(2, 3), 0);
    }

    private void rulingRefused() {
        edges.sentence("10", "False for others.");
        RingCouncil council = new RingCouncil(3);
        edges.due("ahead of any", council.by(0), false);
        for (int text = 0; text < 4; text++) {
            Checks.text(council, "word 1;");
            edges.due("not there yet", council.by(text + 1), false);
        }
        edges.due("none was told", council.about(4), -1);
        int[] wrong = {-2, 2, 3, 4, LOW, HIGH};
        for (int text : wrong) {
            edges.changesNothing("by(" + text + ")", busy -> busy.by(text) ? 1 : 0, 0);
        }
    }

    private void ring() {
        edges.sentence(Edges.TERMS, "the one to the right of i is i + 1 (of the last one 0)");
        for (int rooms = 3; rooms <= 9; rooms++) {
            RingCouncil council = Checks.council("left me*2; right me*2+1;", new int[rooms]);
            council.hours(1);
            for (int room = 0; room < rooms; room++) {
                int left = room == 0 ? rooms - 1 : room - 1;
                int right = room == rooms - 1 ? 0 : room + 1;
                edges.room("rooms " + rooms, council, room, 0, left * 2 + 1, right * 2);
            }
        }
    }

    private void atFirst() {
        edges.sentence(Edges.TERMS, "FIRST (0 .. 9; at first 0)");
        for (int rooms = 3; rooms <= 9; rooms++) {
            RingCouncil council = new RingCouncil(rooms);
            for (int room = 0; room < rooms; room++) {
                edges.room("at first", council, room, 0, -1, -1, 0, 0, 0, 0);
            }
        }
        edges.sentence(Edges.TERMS, "(NONE: none, 0 .. 99; at first none), whether he pulls (at first not)");
        RingCouncil council = new RingCouncil(3);
        for (int room = 0; room < 3; room++) {
            council.elder(room, 1, 0);
        }
        council.hours(1);
        edges.due("no pulls", council.about(2), 0);
        for (int room = 0; room < 3; room++) {
            edges.room("no lies", council, room, 0, -1, -1);
        }
        edges.sentence(Edges.TERMS, "BARRED notes (0 .. 99; at first none)");
        edges.due("none", council.about(9), 0);
        for (int note = 0; note <= 99; note++) {
            council.lies(1, note, -1, false);
            council.hours(1);
            edges.due("comes through", council.of(0, 2), note);
        }
    }

    private void underWay() {
        edges.sentence(Edges.TERMS, "(To tell KIND, FIRST, STUCK, LIES, BARRED or THE TEXT doesn't change what is under way.)");
        RingCouncil council = Checks.council("left 3; right 4; keep 5; rope 1=1;", 1, 1, 1);
        Checks.text(council, "left 6; right 7; keep 8;");
        council.hours(2);
        council.elder(0, 1, 9);
        council.elder(1, 2, 9);
        council.stuck(2, true);
        council.lies(0, 1, 1, false);
        council.bar(3, true);
        council.bar(4, true);
        council.by(1);
        for (int room = 0; room < 3; room++) {
            edges.room("as the hours made it", council, room, 5, 4, 3);
        }
        edges.abouts("as the hours made it", council, 3, 2, 3);
        edges.due("can still be taken back", council.undo(), 1);
        edges.room("one hour back", council, 2, 5, 4, 3);
    }
}
