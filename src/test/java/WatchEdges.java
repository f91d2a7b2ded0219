/** The edges of slips, watchers, the image and what is asked about: promises 23 to 27, and terms IV. */
final class WatchEdges {

    private static final int LOW = Edges.LOW;
    private static final int HIGH = Edges.HIGH;

    private final Edges edges;

    WatchEdges(Edges edges) {
        this.edges = edges;
    }

    void all() {
        slips();
        slipsRefused();
        oneMore();
        learning();
        learningRefused();
        watching();
        imaging();
        backing();
        imageHolds();
        about();
        aboutRefused();
        tried();
    }

    private void slips() {
        edges.sentence("23", "SLIPS: how many (i NONE), the i-th in order of HOUR, ROOM, side: 100 HOUR + 10 ROOM + side.");
        for (int rooms = 3; rooms <= 9; rooms++) {
            RingCouncil council = Checks.council("left 0; right 99; word 9;", new int[rooms]);
            int inHour = 2 * rooms;
            edges.due("the fewest hours", council.slips(1, 0, 9, -1), inHour);
            edges.due("the most hours", council.slips(20, rooms - 1, 9, -1), inHour * 20);
            edges.due("none of another word", council.slips(20, 0, 0, -1), 0);
            for (int i = 0; i < inHour; i++) {
                edges.due("in HOUR 0", council.slips(1, 0, 9, i), 10 * (i / 2) + i % 2);
                edges.due("in HOUR 19", council.slips(20, 0, 9, inHour * 19 + i), 1900 + 10 * (i / 2) + i % 2);
            }
        }
        RingCouncil none = Checks.council("word 0;", 0, 0, 0);
        edges.due("no notes at all", none.slips(20, 0, 0, -1), 0);
        RingCouncil first = Checks.council("right first; keep hour; word if gotleft=8 and kept<2?7:kept end;", 6, 7, 8);
        for (int i = 0; i < 3; i++) {
            edges.due("by FIRST, from THE START", first.slips(1, 2, 7, 0), 11);
            edges.due("by HOUR 4", first.slips(4, 2, 3, -1), 12);
        }
    }

    private void slipsRefused() {
        edges.sentence("23", "NONE if there is none such, and for others.");
        RingCouncil council = Checks.council("left 0; right 99; word 9;", 0, 0, 0);
        int[][] none = {{1, 0, 9, 6}, {1, 0, 9, 7}, {1, 0, 9, HIGH}, {20, 0, 9, 120}, {1, 0, 8, 0}, {1, 0, 0, 0}};
        for (int[] a : none) {
            edges.due("none such", council.slips(a[0], a[1], a[2], a[3]), -1);
        }
        int[][] wrong = {{0, 0, 3, -1}, {21, 0, 3, -1}, {-1, 0, 3, -1}, {LOW, 0, 3, -1}, {HIGH, 0, 3, -1}, {1, -1, 3, -1},
            {1, 5, 3, -1}, {1, LOW, 3, -1}, {1, HIGH, 3, -1}, {1, 0, -1, -1}, {1, 0, 10, -1}, {1, 0, LOW, -1},
            {1, 0, HIGH, -1}, {1, 0, 1, -2}, {1, 0, 1, LOW}, {0, 0, 1, 0}, {1, 0, 10, 0}, {1, 0, 1, 10}};
        for (int[] w : wrong) {
            edges.changesNothing("slips(" + w[0] + ", " + w[1] + ", " + w[2] + ", " + w[3] + ")",
                busy -> busy.slips(w[0], w[1], w[2], w[3]), -1);
        }
        for (int rooms = 3; rooms <= 9; rooms++) {
            RingCouncil all = Checks.council("left 0; word 9;", new int[rooms]);
            edges.due("the last room of " + rooms, all.slips(1, rooms - 1, 9, -1), rooms);
            edges.due("beyond it", all.slips(1, rooms, 9, -1), -1);
        }
    }

    private void oneMore() {
        edges.sentence(Edges.TERMS, "comes as one more (of 99: 0)");
        int[][] notes = {{0, 1}, {1, 2}, {8, 9}, {98, 99}, {99, 0}};
        for (int[] n : notes) {
            RingCouncil rights = Checks.council("right " + n[0] + "; word if gotleft=" + n[1] + "?7:5 end;", 0, 0, 0);
            edges.due("to the right " + n[0], rights.slips(1, 0, 7, -1), 1);
            edges.due("to the right " + n[0], rights.slips(1, 0, 7, 0), 21);
            RingCouncil lefts = Checks.council("left " + n[0] + "; word if gotright=" + n[1] + "?7:5 end;", 0, 0, 0);
            edges.due("to the left " + n[0], lefts.slips(1, 2, 7, -1), 1);
            edges.due("to the left " + n[0], lefts.slips(1, 2, 7, 0), 0);
        }
        edges.sentence(Edges.TERMS, "SLIPS: one note alone "
            + "(of a HOUR 0 .. n - 1, a ROOM that wrote it, a side: 0 left, 1 right)");
        RingCouncil both = Checks.council("left 4; right 4; word if gotleft=5 and gotright=5?7:"
            + "if gotleft=5 or gotright=5?6:5 end end;", 0, 0, 0);
        edges.due("not two at once", both.slips(1, 1, 7, -1), 0);
        edges.due("one or the other", both.slips(1, 1, 6, -1), 2);
        edges.due("of room 0 to the right", both.slips(1, 1, 6, 0), 1);
        edges.due("of room 2 to the left", both.slips(1, 1, 6, 1), 20);
        edges.due("the others", both.slips(1, 1, 5, -1), 4);
        RingCouncil count = Checks.council("left 4; keep if gotright=5?kept+1:kept end; word kept;", 0, 0, 0);
        edges.due("of HOUR 0, by HOUR 20", count.slips(20, 0, 1, 0), 10);
        edges.due("of HOUR 18, by HOUR 20", count.slips(20, 0, 1, 18), 1810);
        edges.due("of HOUR 19 it is too late", count.slips(20, 0, 1, -1), 19);
        edges.due("never twice", count.slips(20, 0, 2, -1), 0);
        count.bar(4, true);
        edges.due("barred: none came", count.slips(20, 0, 0, -1), 0);
        count.elder(1, 1, 0);
        count.lies(1, 6, -1, false);
        edges.due("a liar's notes alone came", count.slips(20, 0, 0, -1), 20);
        count.elder(1, 2, 0);
        edges.due("a sleeper has none", count.slips(20, 0, 0, -1), 0);
    }

    private void learning() {
        edges.sentence("24", "LEARNS.");
        for (int rooms = 3; rooms <= 9; rooms++) {
            RingCouncil council = Checks.council("left if hour=19?first:-1 end;", new int[rooms]);
            for (int room = 0; room < rooms; room++) {
                int slot = (room + rooms - 1) % rooms;
                edges.due("nothing in no hours", council.learns(slot, 0, room), 1);
                edges.due("nothing in 19", council.learns(slot, 19, room), 1);
                edges.due("all in 20", council.learns(slot, 20, room), 10);
                edges.due("nothing elsewhere", council.learns(room, 20, room), 1);
            }
        }
        for (int hour = 0; hour < 20; hour++) {
            RingCouncil lefts = Checks.council("left if hour=" + hour + "?first:-1 end;", 0, 0, 0);
            edges.due("to the left, not by HOUR " + hour, lefts.learns(0, hour, 1), 1);
            edges.due("to the left, in HOUR " + hour, lefts.learns(0, hour + 1, 1), 10);
            edges.due("to the left, still", lefts.learns(0, 20, 1), 10);
            RingCouncil rights = Checks.council("right if hour=" + hour + "?first:-1 end;", 0, 0, 0);
            edges.due("to the right, not by HOUR " + hour, rights.learns(0, hour, 0), 1);
            edges.due("to the right, in HOUR " + hour, rights.learns(0, hour + 1, 0), 10);
            edges.due("to the right, still", rights.learns(0, 20, 0), 10);
        }
        for (int least = 0; least <= 10; least++) {
            RingCouncil council = Checks.council("right if first<" + least + "?-1:first end;", 4, 4, 4);
            edges.due("rows that are unlike", council.learns(0, 1, 0), Math.min(10, 11 - least));
            council.elder(0, 0, 9);
            edges.due("whatever his FIRST is", council.learns(0, 1, 0), Math.min(10, 11 - least));
        }
    }

    private void learningRefused() {
        edges.sentence("24", "NONE for others.");
        int[][] wrong = {{-1, 1, 0}, {5, 1, 0}, {LOW, 1, 0}, {HIGH, 1, 0}, {0, -1, 0}, {0, 21, 0}, {0, LOW, 0}, {0, HIGH, 0},
            {0, 1, -1}, {0, 1, 5}, {0, 1, LOW}, {0, 1, HIGH}, {5, 0, 0}, {0, 0, 5}, {9, 21, 9}};
        for (int[] w : wrong) {
            edges.changesNothing("learns(" + w[0] + ", " + w[1] + ", " + w[2] + ")",
                council -> council.learns(w[0], w[1], w[2]), -1);
        }
        for (int rooms = 3; rooms <= 9; rooms++) {
            RingCouncil council = new RingCouncil(rooms);
            edges.due("the last slot and room", council.learns(rooms - 1, 20, rooms - 1), 1);
            edges.due("no slot more", council.learns(rooms, 0, 0), -1);
            edges.due("no room more", council.learns(0, 0, rooms), -1);
        }
    }

    private void watching() {
        edges.sentence(Edges.TERMS, "sees what comes through, both ways, in n HOURS (0 .. 20)");
        RingCouncil council = Checks.council("left first/4; right first/5;", 0, 0, 0, 0);
        edges.due("to the left, through the last slot", council.learns(3, 1, 0), 3);
        edges.due("to the right, through the last slot", council.learns(3, 1, 3), 2);
        edges.due("to the left", council.learns(0, 1, 1), 3);
        edges.due("to the right", council.learns(0, 1, 0), 2);
        edges.due("beside it", council.learns(1, 1, 0), 1);
        council.bar(1, true);
        edges.due("a barred note doesn't come through", council.learns(0, 1, 1), 3);
        council.bar(2, true);
        edges.due("nor do two", council.learns(0, 1, 1), 2);
        council.elder(1, 1, 0);
        edges.due("nothing of a liar", council.learns(0, 20, 1), 1);
        RingCouncil bell = Checks.council("rope first=3; right bell;", 0, 0, 0, 0);
        edges.due("the bell isn't seen", bell.learns(1, 1, 3), 1);
        edges.due("but what is written by it", bell.learns(1, 2, 3), 2);
    }

    private void imaging() {
        edges.sentence("25", "THE IMAGE is as all is now: HOUR.");
        edges.due("of a new one", new RingCouncil(3).image(), 0);
        RingCouncil council = Checks.council("keep kept+1;", 0, 0, 0);
        int[] hours = {1, 39, 1, 99, 99, 99, 99, 99, 99, 99, 99, 99, 66, 1};
        int gone = 0;
        for (int n : hours) {
            gone = council.hours(n);
            edges.due("HOUR", council.image(), gone);
            council.start();
            edges.due("as it was", council.back(), gone);
            edges.room("as it was", council, 2, Math.min(99, gone));
            edges.due("as it was", council.about(5), Math.min(40, gone));
        }
        edges.due("the last HOUR", gone, 999);
        edges.changesNothing("an image of what is imaged", WatchEdges::imaged, RingCouncil::image, 3);
        RingCouncil other = Edges.busy();
        other.image();
        other.start();
        other.image();
        edges.due("the latest counts", other.back(), 0);
    }

    private static RingCouncil imaged() {
        RingCouncil council = Edges.busy();
        council.image();
        return council;
    }

    private void backing() {
        edges.sentence("26", "BACK to THE IMAGE (it stays): HOUR.");
        edges.changesNothing("of a new one", () -> new RingCouncil(3), RingCouncil::back, 0);
        edges.changesNothing("at once", WatchEdges::imaged, RingCouncil::back, 3);
        RingCouncil council = imaged();
        for (int i = 0; i < 3; i++) {
            scramble(council);
            edges.due("again and again", council.back(), 3);
        }
        edges.same("as it was", council, imaged());
        RingCouncil undone = imaged();
        for (int i = 0; i < 3; i++) {
            undone.undo();
        }
        edges.due("what was taken back is there", undone.back(), 3);
        edges.same("as it was", undone, imaged());
    }

    /** Tells all otherwise that an image holds, but reads no text. */
    private static void scramble(RingCouncil council) {
        for (int room = 0; room < 5; room++) {
            council.elder(room, (council.of(room, 4) + 1) % 3, (council.of(room, 5) + 1) % 10);
            council.stuck(room, council.of(room, 6) == 0);
            council.lies(room, 77, 78, room % 2 == 0);
        }
        for (int note = 0; note < 100; note += 7) {
            council.bar(note, note % 2 == 0);
        }
        council.bar(98, false);
        council.by(0);
        council.start();
        council.hours(45);
        council.told(4, 1, 1);
    }

    private void imageHolds() {
        edges.sentence(Edges.TERMS, "AN IMAGE: all as it is, what can be taken back as well, but the tape and the latest FAULT.");
        RingCouncil council = imaged();
        council.end(4);
        edges.due("BACK", council.back(), 3);
        edges.due("the tape isn't as it was", council.about(8), 4);
        Checks.tape(council, "@");
        edges.due("the tape is read", council.text(), -1);
        council.back();
        edges.due("the latest FAULT isn't as it was", council.fault(0), 1);
        edges.due("nor its place", council.fault(1), 0);
        edges.due("TEXTS are as they were", council.about(3), 2);
        Checks.text(council, "word 9;");
        Checks.text(council, "word 8;");
        council.by(3);
        council.back();
        edges.due("TEXTS are as they were", council.about(3), 2);
        edges.due("THE TEXT is", council.about(4), 1);
        edges.due("no text more", council.by(2), false);
        edges.due("the latest FAULT is none", council.fault(0), 0);
        RingCouncil full = Checks.council("keep kept+1;", 0, 0, 0);
        full.hours(99);
        full.image();
        for (int i = 0; i < 25; i++) {
            full.undo();
        }
        full.hours(60);
        full.back();
        for (int hour = 98; hour >= 59; hour--) {
            edges.due("40 can be taken back", full.undo(), hour);
            edges.due("and are as they were", full.of(1, 0), hour);
        }
        edges.due("no more", full.undo(), -1);
        RingCouncil told = Checks.council("left hour; right hour+20;", 0, 0, 0);
        for (int i = 0; i < 8; i++) {
            told.told(1, i + 20, i);
        }
        told.image();
        told.forget();
        for (int i = 0; i < 8; i++) {
            told.told(1, 50, 50);
        }
        edges.due("nobody", told.suspects(0), 0);
        told.back();
        edges.due("what was TOLD from the left and the right", told.suspects(0), 512);
        edges.sentence(Edges.TERMS, "BACK: all is so again.");
        edges.due("again", full.back(), 99);
        edges.due("40", full.about(5), 40);
    }

    private void about() {
        edges.sentence("27", "0 R, 1 HOUR, 2 BELL, 3 TEXTS, 4 THE TEXT (NONE), 5 HOURS that can be taken back, "
            + "6 HOURS that are TOLD, 7 the ROOM of what is TOLD (NONE without), 8 bytes of the tape, "
            + "9 how many notes are BARRED.");
        edges.abouts("the least", new RingCouncil(3), 3, 0, 0, 0, -1, 0, 0, -1, 0, 0);
        RingCouncil council = new RingCouncil(9);
        for (int i = 0; i < 4; i++) {
            Checks.text(council, "rope 1=1;");
        }
        council.by(3);
        for (int i = 0; i < 10; i++) {
            council.hours(99);
        }
        council.hours(9);
        for (int i = 0; i < 8; i++) {
            council.told(8, 0, 0);
        }
        for (int i = 0; i < 15; i++) {
            council.feed(0, 0, 0, 0, 0);
        }
        for (int note = 0; note < 100; note++) {
            council.bar(note, true);
        }
        edges.abouts("the greatest", council, 9, 999, 9, 4, 3, 40, 8, 8, 300, 100);
        council.forget();
        council.by(-1);
        council.end(0);
        edges.abouts("and without", council, 9, 999, 9, 4, -1, 40, 0, -1, 0, 100);
        council.told(0, 0, 0);
        edges.due("of the first room", council.about(7), 0);
    }

    private void aboutRefused() {
        edges.sentence("27", "-2 for others.");
        int[] wrong = {-1, -2, 10, 11, LOW, HIGH};
        for (int what : wrong) {
            edges.changesNothing("about(" + what + ")", council -> council.about(what), -2);
        }
    }

    private void tried() {
        edges.sentence(Edges.TERMS, "What is TRIED begins at THE START, and changes nothing.");
        Edges.Call[] calls = {c -> c.agrees(0), c -> c.agrees(1), c -> c.holds(2, 1), c -> c.states(2, 1),
            c -> c.bad(2, 1, 0, 0, 1), c -> c.suspects(2), c -> c.slips(5, 2, 8, -1), c -> c.slips(3, 0, 2, 0),
            c -> c.learns(1, 6, 2), c -> c.learns(4, 3, 0)};
        for (int i = 0; i < calls.length; i++) {
            RingCouncil started = Edges.busy();
            started.start();
            edges.changesNothing("call " + i, calls[i], calls[i].on(started));
        }
    }
}
