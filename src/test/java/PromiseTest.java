/** For each promise: ordinary calls, the edges that the document names, and wrong arguments. */
public final class PromiseTest {

    private static final int LOW = Integer.MIN_VALUE;
    private static final int HIGH = Integer.MAX_VALUE;
    private static final String GREATEST = "right kept; keep if gotleft>kept? gotleft: kept end;";

    private final Checks checks = new Checks();

    public static void main(String[] args) {
        PromiseTest test = new PromiseTest();
        test.newObject();
        test.elders();
        test.stuckRopes();
        test.lying();
        test.barring();
        test.feeding();
        test.ending();
        test.texts();
        test.faults();
        test.values();
        test.deciding();
        test.ruling();
        test.starting();
        test.hours();
        test.undoing();
        test.rooms();
        test.agreeing();
        test.agreements();
        test.runs();
        test.runsOfTwo();
        test.runsSpent();
        test.telling();
        test.suspects();
        test.suspectsSpent();
        test.slips();
        test.learning();
        test.images();
        test.about();
        test.checks.close();
    }

    private void due(String what, long got, long want) {
        checks.due(what, got, want);
    }

    private void due(String what, boolean got, boolean want) {
        checks.due(what, got, want);
    }

    private void abouts(String when, RingCouncil council, int... wants) {
        for (int i = 0; i < wants.length; i++) {
            due(when + ": about(" + i + ")", council.about(i), wants[i]);
        }
    }

    private void room(String when, RingCouncil council, int room, int... wants) {
        for (int i = 0; i < wants.length; i++) {
            due(when + ": of(" + room + ", " + i + ")", council.of(room, i), wants[i]);
        }
    }

    private void newObject() {
        int[][] asked = {{LOW, 3}, {-1, 3}, {2, 3}, {3, 3}, {4, 4}, {9, 9}, {10, 9}, {HIGH, 9}};
        for (int[] pair : asked) {
            abouts("1, new " + pair[0], new RingCouncil(pair[0]), pair[1], 0, 0, 0, -1, 0, 0, -1, 0, 0);
        }
        RingCouncil council = new RingCouncil(5);
        for (int room = 0; room < 5; room++) {
            room("1, new", council, room, 0, -1, -1, 0, 0, 0, 0);
        }
        due("1, hidden lies", council.elder(0, 1, 0), true);
        council.hours(1);
        room("1, a liar lies none at first", council, 1, 0, -1, -1);
        due("1, bell", council.about(2), 0);
        Checks.text(council, "word 3;");
        council.by(0);
        council.bar(7, true);
        council.told(1, 2, 3);
        council.stuck(3, true);
        due("1, the image is the new one", council.back(), 0);
        abouts("1, back", council, 5, 0, 0, 0, -1, 0, 0, -1, 0, 0);
        room("1, back", council, 0, 0, -1, -1, 0, 0, 0, 0);
        room("1, back", council, 3, 0, -1, -1, 0, 0, 0, 0);
    }

    private void elders() {
        RingCouncil council = new RingCouncil(4);
        due("2, elder", council.elder(3, 2, 9), true);
        room("2, told, under way unchanged", council, 3, 0, -1, -1, 0, 2, 9, 0);
        int[][] wrong = {{-1, 0, 0}, {4, 0, 0}, {LOW, 0, 0}, {HIGH, 0, 0}, {3, -1, 0}, {3, 3, 0}, {3, LOW, 0},
            {3, HIGH, 0}, {3, 0, -1}, {3, 0, 10}, {3, 0, LOW}, {3, 0, HIGH}};
        for (int[] w : wrong) {
            due("2, wrong elder", council.elder(w[0], w[1], w[2]), false);
        }
        room("2, unchanged", council, 3, 0, -1, -1, 0, 2, 9, 0);
        due("2, elder again", council.elder(3, 0, 0), true);
        room("2, changed", council, 3, 0, -1, -1, 0, 0, 0, 0);
    }

    private void stuckRopes() {
        RingCouncil council = Checks.council("rope me<3; rope me<2;", 0, 0, 0, 0);
        council.hours(1);
        due("3, one pull each", council.about(2), 3);
        due("3, stuck", council.stuck(1, true), true);
        due("3, told doesn't change what is under way", council.about(2), 3);
        council.hours(1);
        due("3, a stuck rope", council.about(2), 2);
        due("3, is stuck", council.of(1, 6), 1);
        due("3, not stuck", council.stuck(1, false), true);
        due("3, isn't stuck", council.of(1, 6), 0);
        due("3, below", council.stuck(-1, true), false);
        due("3, above", council.stuck(4, true), false);
        due("3, far above", council.stuck(HIGH, true), false);
        due("3, far below", council.stuck(LOW, true), false);
        council.hours(1);
        due("3, all count", council.about(2), 3);
    }

    private void lying() {
        RingCouncil council = Checks.council("left 1; right 2; keep 5;", 3, 3, 3);
        due("4, lies of a sound one", council.lies(1, 0, 99, true), true);
        council.hours(1);
        room("4, a sound one doesn't use them", council, 0, 5, 2, 1);
        council.elder(1, 1, 8);
        council.hours(1);
        room("4, a liar does, to the left", council, 0, 5, 2, 0);
        room("4, a liar does, to the right", council, 2, 5, 99, 1);
        room("4, a liar keeps what he keeps", council, 1, 5, 2, 1, 5, 1, 8);
        due("4, a liar pulls", council.about(2), 1);
        due("4, none", council.lies(1, -1, -1, false), true);
        council.hours(1);
        room("4, none to the left", council, 0, 5, 2, -1);
        room("4, none to the right", council, 2, 5, -1, 1);
        due("4, no pull", council.about(2), 0);
        int[][] wrong = {{-1, 0, 0}, {3, 0, 0}, {1, -2, 0}, {1, 100, 0}, {1, 0, -2}, {1, 0, 100}, {1, LOW, 0},
            {1, 0, HIGH}, {LOW, 0, 0}};
        for (int[] w : wrong) {
            due("4, wrong lies", council.lies(w[0], w[1], w[2], true), false);
        }
        council.hours(1);
        room("4, unchanged", council, 0, 5, 2, -1);
        due("4, still no pull", council.about(2), 0);
        council.elder(1, 2, 8);
        council.lies(1, 4, 4, true);
        council.hours(1);
        room("4, a sleeper does nothing", council, 0, 5, 2, -1);
        room("4, a sleeper keeps and gets", council, 1, 5, 2, 1);
        due("4, a sleeper doesn't pull", council.about(2), 0);
    }

    private void barring() {
        RingCouncil council = Checks.council("left me; right 99;", 0, 0, 0);
        due("5, bar 0", council.bar(0, true), true);
        due("5, bar 99", council.bar(99, true), true);
        due("5, bar 99 again", council.bar(99, true), true);
        due("5, count", council.about(9), 2);
        council.hours(1);
        room("5, barred to the right", council, 0, 0, -1, 1);
        room("5, barred to the left", council, 2, 0, -1, -1);
        due("5, no longer", council.bar(99, false), true);
        due("5, never was", council.bar(50, false), true);
        due("5, count", council.about(9), 1);
        room("5, told doesn't change what is under way", council, 0, 0, -1, 1);
        council.hours(1);
        room("5, comes through", council, 2, 0, 99, -1);
        due("5, below", council.bar(-1, true), false);
        due("5, above", council.bar(100, true), false);
        due("5, far", council.bar(LOW, true) || council.bar(HIGH, false), false);
        due("5, count", council.about(9), 1);
        council.elder(0, 1, 0);
        council.lies(0, 0, 0, false);
        council.hours(1);
        room("5, a liar's note is barred too", council, 1, 0, -1, 2);
    }

    private void feeding() {
        RingCouncil council = new RingCouncil(3);
        int a = 'w' << 24 | 'o' << 16 | 'r' << 8 | 'd';
        int b = ' ' << 24 | '7' << 16 | ';' << 8 | ' ';
        int blank = 0x20202020;
        due("6, feed", council.feed(a, b, blank, blank, 0x2020200A), 20);
        due("6, the highest of a first", council.text(), 0);
        council.by(0);
        due("6, word", council.of(2, 3), 7);
        council.feed(0xFF000000, 0, 0, 0, 0);
        council.end(1);
        due("6, byte 255", council.text(), -1);
        due("6, its fault", council.fault(1), 0);
        for (int i = 1; i <= 15; i++) {
            due("6, feed " + i, council.feed(blank, blank, blank, blank, blank), 20 * i);
        }
        due("6, full", council.feed(blank, blank, blank, blank, blank), -1);
        due("6, stays", council.about(8), 300);
        council.end(281);
        due("6, would be 301", council.feed(blank, blank, blank, blank, blank), -1);
        due("6, stays", council.about(8), 281);
        council.end(280);
        due("6, 300", council.feed(a, b, blank, blank, blank), 300);
        due("6, text", council.text(), 1);
        council.by(1);
        due("6, word behind blanks", council.of(0, 3), 7);
    }

    private void ending() {
        RingCouncil council = new RingCouncil(3);
        due("7, of none", council.end(0), 0);
        due("7, not so many", council.end(1), -1);
        Checks.tape(council, "word 123;");
        due("7, above", council.end(10), -1);
        due("7, far above", council.end(HIGH), -1);
        due("7, below 0", council.end(-1), -1);
        due("7, far below 0", council.end(LOW), -1);
        due("7, nothing is done", council.about(8), 9);
        due("7, all", council.end(9), 9);
        due("7, first bytes", council.end(6), 6);
        due("7, bytes", council.about(8), 6);
        due("7, back no more", council.end(9), -1);
        council.feed(0x3B202020, 0x20202020, 0x20202020, 0x20202020, 0x20202020);
        due("7, text", council.text(), 0);
        String[] cut = {"word 12", "word hour", "rope 1<=", "word"};
        int[] faults = {6, 5, 7, 0};
        for (int i = 0; i < cut.length; i++) {
            Checks.tape(council, cut[i]);
            council.end(cut[i].length() - 1);
            due("7, what is behind the end isn't read: " + cut[i], council.text(), -1);
            due("7, what is behind the end isn't read: " + cut[i], council.fault(1), faults[i]);
        }
        council.by(0);
        due("7, word 1", council.of(0, 3), 1);
    }

    private void texts() {
        RingCouncil council = new RingCouncil(3);
        due("8, empty", council.text(), 0);
        due("8, one", Checks.text(council, "word 1;"), 1);
        due("8, the tape is empty", council.about(8), 0);
        due("8, with a fault", Checks.text(council, "word 1"), -1);
        due("8, the tape is empty too", council.about(8), 0);
        due("8, texts", council.about(3), 2);
        due("8, next", Checks.text(council, "word 2;"), 2);
        due("8, next", Checks.text(council, "word 3;"), 3);
        due("8, a fifth", Checks.text(council, "word"), -1);
        due("8, the tape stays", council.about(8), 4);
        due("8, it wasn't read", council.fault(0), 0);
        due("8, texts", council.about(3), 4);
        int[] words = {0, 1, 2, 3};
        for (int text = 0; text < 4; text++) {
            council.by(text);
            due("8, text " + text, council.of(0, 3), words[text]);
        }
    }

    private void faults() {
        RingCouncil council = new RingCouncil(3);
        due("9, ahead of any", council.fault(0), -1);
        due("9, ahead of any", council.fault(1), -1);
        due("9, other", council.fault(2), -1);
        String rope = "rope 1=1;";
        String twelve = rope.repeat(12);
        String[] right = {"", " \n ", "keep 9999;", "keep 00009999;", "rope not not 1<2 and 1#2 or 3>=2;", twelve,
            "rope 1=1;".repeat(8) + "keep 1;left 1;right 1;word 1;", "keep--1;", "keep((((((((1))))))));",
            "keep--------1;", "keep-1--1--1--1--1--1--1--1--1--1;", "rope not not not not not not not not 1<2;",
            "keep(1)+(1)+(1)+(1)+(1)+(1)+(1)+(1)+(1)+(1);", "rope not 1=1 and not 1=1 or not not (1)=-1;",
            "keep if if if if if if if if 1=1?1:1 end=1?1:1 end=1?1:1 end=1?1:1 end=1?1:1 end=1?1:1 end=1?1:1 end=1?1:1 end;",
            "keep 1\n+\n2;", "keep kept;rope kept<1;left kept;rope 1>me;rope 1>rooms;rope 1<=first;"};
        for (String text : right) {
            council.back();
            due("9, right: " + text, Checks.text(council, text), 0);
            due("9, 0 of right: " + text, council.fault(0), 0);
            due("9, 1 of right: " + text, council.fault(1), -1);
        }
        wrong(council, 1, "keep", 4, "keep ", 5, "keep 1 ", 7, "keep;", 4, "kept 1;", 0, "1;", 0, ";", 0, "end", 0);
        wrong(council, 1, "Keep 1;", 0, "KEEP 1;", 0, "keepkept;", 0, "keep 1 2;", 7, "keep kept2;", 9, "keep keep;", 5);
        wrong(council, 1, "keep keptz;", 5, "keep keptA;", 5, "keep keptZ;", 5, "keep akept;", 5);
        wrong(council, 1, "keep kept`;", 9, "keep kept{;", 9, "keep kept[;", 9, "keep kept/0:;", 11, "keep @;", 5, "keep 1@;", 6, "\t", 0, "keep 1;\r", 7, "keep 1;\u00e9", 7, "keep 1!;", 6);
        wrong(council, 1, "keep (1;", 7, "keep 1);", 6, "keep ();", 6, "keep 1+;", 7, "keep +1;", 5, "keep 1*/2;", 7);
        wrong(council, 1, "rope 1;", 6, "rope 1<;", 7, "rope 1<2<3;", 8, "rope 1=>2;", 7, "rope 1< =2;", 8);
        wrong(council, 1, "rope (1<2);", 7, "keep 1<2;", 6, "keep not 1;", 5, "rope 1<not 2;", 7, "rope 1=1 and;", 12);
        wrong(council, 1, "keep if 1?2:3 end;", 9, "keep if 1=1?2:3;", 15, "keep if 1=1?2 end;", 14, "keep 1?2:3 end;", 6);
        wrong(council, 1, "keep 1 or 2;", 7, "rope or;", 5, "left 1; right 2; me;", 17, "keep 1 10000;", 7, "10000", 0);
        wrong(council, 1, twelve + "me", 108, twelve + ";", 108, "keep if 1=1 ? 1 : 2 end end;", 24);
        wrong(council, 2, "keep 10000;", 5, "keep 010000;", 5, "rope 1<99999999999999999999;", 7, "left -10000@", 6);
        wrong(council, 3, "keep (((((((((1)))))))));", 13, "keep ---------1;", 13, "keep 1+((-(-(-((-1;", -1);
        wrong(council, 3, "rope not not not not not not not not not 1<2;", 37, "rope not not not not ((((- 1)", 25);
        wrong(council, 3, "keep ((((((((if 1", 13, "rope not if -(-(-(-(-", -1, "rope not if -(-(-(- 1", 18);
        wrong(council, 4, "keep 1; keep 2;", 8, "left 1;left", 7, "right 1;word 1;right", 15, "word 1;word 1;", 7);
        wrong(council, 4, "keep 1;" + rope.repeat(11) + "keep 1;", 106);
        wrong(council, 5, twelve + rope, 108, twelve + " keep 1;", 109, twelve + "rope", 108, twelve + "left", 108);
        due("9, others", council.fault(2), -1);
        due("9, others", council.fault(-1), -1);
        due("9, others", council.fault(HIGH), -1);
        due("9, latest of wrong", council.fault(0), 5);
        council.end(0);
        council.back();
        due("9, back doesn't change it", council.fault(0), 5);
    }

    /** Texts with their places; a place of -1: just see that it isn't read. */
    private void wrong(RingCouncil council, int fault, Object... textsAndPlaces) {
        for (int i = 0; i < textsAndPlaces.length; i += 2) {
            String text = (String) textsAndPlaces[i];
            int place = (Integer) textsAndPlaces[i + 1];
            council.back();
            due("9, wrong: " + text, Checks.text(council, text), -1);
            if (place >= 0) {
                due("9, fault of: " + text, council.fault(0), fault);
                due("9, place of: " + text, council.fault(1), place);
            }
        }
    }

    private void values() {
        String[] sums = {"7/2", "3", "(0-7)/2+10", "7", "-7/2+10", "7", "5/0+1", "1", "10-3-2", "5", "2+3*4", "14",
            "100/10/5", "2", "-(2+3)+9", "4", "--4", "4", "2*-3+10", "4", "7-12+6", "1", "3*7/2", "10", "7/2*3", "9",
            "1000*1000*2-1000*1000+7", "7", "0-1000*1000-1000*1000+1000*1000+7", "7", "9999*9999*9999/9999+0", "99",
            "1000*1000+5-1000*1000", "0", "-1000*1000*1000/1000+1000+5", "5", "1000*1000/(5000*10)", "20", "0-5", "0",
            "100", "99", "99", "99", "1000*1000*(0-1000*1000)/1000/1000+2", "1", "(0-9)/(0-2)", "4",
            "if 1<2 or 1<0 and 1<0?5:6 end", "5", "if not 1<2 and 1<0?5:6 end", "6", "if 1<0?1:if 2=2?8:9 end end+1", "9",
            "if 1#1?5:6 end", "6", "if 1#2?5:6 end", "5", "if 2<=2?5:6 end", "5", "if 2>=3?5:6 end", "6", "if 2>=2?5:6 end", "5", "if 3>=2?5:6 end", "5", "if 2>2?5:6 end", "6",
            "if 2>1?5:6 end", "5", "if 2<2?5:6 end", "6", "if not not 1=1?5:6 end", "5", "2*if 1=2?5:6 end*2", "24",
            "if 1=0 or 2=2 or 1=0?1:2 end", "1", "if 1=1 and 2=3?1:2 end", "2", "007+1", "8", "if if 1=1?3:4 end=3?1:2 end", "1"};
        for (int i = 0; i < sums.length; i += 2) {
            RingCouncil council = Checks.council("keep " + sums[i] + ";", 9, 9, 9);
            council.hours(1);
            due("II, keep " + sums[i], council.of(1, 0), Integer.parseInt(sums[i + 1]));
        }
        RingCouncil council = Checks.council("left kept+1; right kept+2; rope me>1; keep kept*10+me; word "
            + "if hour=0? rooms: if hour=1? first: if me=0? gotleft-8 : if me=1? gotright-12: bell end end end end;", 2, 1, 0, 3);
        due("II, rooms", council.of(1, 3), 4);
        council.hours(1);
        room("II, kept, me", council, 0, 20, 5, 2);
        room("II, kept, me", council, 3, 33, 2, 3);
        due("II, first", council.of(3, 3), 3);
        due("II, bell", council.about(2), 2);
        council.elder(3, 0, 7);
        due("II, first is told", council.of(3, 3), 7);
        council.hours(1);
        due("II, gotleft", council.of(0, 3), 9);
        due("II, gotright", council.of(1, 3), 0);
        due("II, bell", council.of(2, 3), 2);
        council.hours(1);
        due("II, 99 at most", council.of(0, 1), 99);
    }

    private void deciding() {
        RingCouncil council = Checks.council("left kept*60-60; right 0-kept; rope kept=1; rope kept=2; word kept*4-4;", 0, 1, 2, 3);
        due("I, word below 0", council.of(0, 3), 0);
        due("I, word", council.of(2, 3), 4);
        council.hours(1);
        room("I, below 0: none", council, 3, 3, -1, -1);
        room("I, 0 is a note", council, 0, 0, -1, 0, 0);
        room("I, 60", council, 1, 1, 0, 60, 0);
        room("I, 99 at most", council, 2, 2, -1, 99, 4);
        due("I, pulls", council.about(2), 2);
        council.by(-1);
        council.hours(1);
        room("I, without a text all keep and write none", council, 2, 2, -1, -1, 2);
        due("I, nor pull", council.about(2), 0);
        RingCouncil high = Checks.council("keep 50;", 1, 1, 1);
        high.hours(1);
        due("I, says what he keeps, 9 at most", high.of(0, 3), 9);
    }

    private void ruling() {
        RingCouncil council = new RingCouncil(3);
        due("10, none", council.by(-1), true);
        due("10, not there", council.by(0), false);
        Checks.text(council, "word 4;");
        due("10, none by itself", council.about(4), -1);
        due("10, there", council.by(0), true);
        due("10, not there", council.by(1), false);
        due("10, below", council.by(-2), false);
        due("10, far", council.by(LOW) || council.by(HIGH), false);
        due("10, the text", council.about(4), 0);
        due("10, rules", council.of(0, 3), 4);
        due("10, none", council.by(-1), true);
        due("10, none", council.about(4), -1);
        due("10, none rules", council.of(0, 3), 0);
    }

    private void starting() {
        RingCouncil council = Checks.council("left 1; rope 1=1; keep 8;", 1, 2, 3);
        due("11, at once", council.start(), 0);
        council.hours(7);
        council.elder(0, 0, 5);
        due("11, hours that went by", council.start(), 7);
        room("11, the start", council, 0, 5, -1, -1);
        room("11, the start", council, 1, 2, -1, -1);
        abouts("11, the start", council, 3, 0, 0, 1, 0, 0);
        due("11, nothing to take back", council.undo(), -1);
    }

    private void hours() {
        RingCouncil council = Checks.council("keep kept+1;", 0, 0, 0);
        int[] wrong = {0, -1, 100, LOW, HIGH};
        for (int n : wrong) {
            due("12, wrong", council.hours(n), -1);
        }
        due("12, nothing is done", council.about(1), 0);
        due("12, one", council.hours(1), 1);
        due("12, more", council.hours(2), 3);
        due("12, kept", council.of(0, 0), 3);
        due("12, most", council.hours(99), 102);
        for (int i = 2; i <= 10; i++) {
            due("12, more", council.hours(99), 99 * i + 3);
        }
        due("12, far beyond", council.hours(99), -1);
        due("12, beyond", council.hours(7), -1);
        due("12, nothing is done", council.about(1), 993);
        due("12, to the last", council.hours(6), 999);
        due("12, beyond the last", council.hours(1), -1);
        due("12, the last", council.about(1), 999);
        due("12, taken back", council.undo(), 998);
        due("12, and again", council.hours(1), 999);
    }

    private void undoing() {
        RingCouncil council = Checks.council("keep kept+1; left kept; rope hour=1;", 0, 0, 0);
        due("13, none", council.undo(), -1);
        council.hours(2);
        due("13, bell", council.about(2), 3);
        council.hours(1);
        council.elder(0, 2, 7);
        due("13, back", council.undo(), 2);
        room("13, back", council, 0, 2, -1, 1, 2, 2, 7);
        due("13, bell", council.about(2), 3);
        due("13, back", council.undo(), 1);
        due("13, back", council.undo(), 0);
        room("13, the start as it was", council, 0, 0, -1, -1);
        due("13, none", council.undo(), -1);
        council.hours(41);
        due("13, 40 are kept", council.about(5), 40);
        for (int hour = 40; hour >= 1; hour--) {
            due("13, back", council.undo(), hour);
            due("13, kept then", council.of(1, 0), hour);
        }
        due("13, the oldest is gone", council.undo(), -1);
        due("13, stays", council.about(1), 1);
        council.hours(99);
        council.hours(3);
        due("13, 40 are kept", council.about(5), 40);
        due("13, back", council.undo(), 102);
        council.hours(1);
        due("13, 40 again", council.about(5), 40);
    }

    private void rooms() {
        RingCouncil council = Checks.council("left 3; right 4; word 6;", 1, 2, 3);
        council.elder(1, 1, 5);
        council.stuck(1, true);
        council.hours(1);
        room("14, a liar", council, 1, 2, 4, 3, 6, 1, 5, 1);
        room("14, beside him", council, 2, 3, -1, 3, 6, 0, 3, 0);
        int[][] wrong = {{-1, 0}, {3, 0}, {0, -1}, {0, 7}, {LOW, 0}, {HIGH, 0}, {0, LOW}, {0, HIGH}};
        for (int[] w : wrong) {
            due("14, wrong of(" + w[0] + ", " + w[1] + ")", council.of(w[0], w[1]), -2);
        }
    }

    private void agreeing() {
        RingCouncil council = Checks.council("word kept/2;", 2, 3, 4);
        due("15, unlike", council.agree(), false);
        council.elder(2, 1, 4);
        due("15, a liar aside", council.agree(), true);
        council.elder(2, 2, 4);
        due("15, a sleeper aside", council.agree(), true);
        council.elder(2, 0, 4);
        due("15, sound again", council.agree(), false);
        council.by(-1);
        due("15, by what they keep", council.agree(), false);
        for (int room = 0; room < 3; room++) {
            council.elder(room, 1 + room % 2, 0);
        }
        due("15, none are sound", council.agree(), true);
    }

    private void agreements() {
        RingCouncil council = Checks.council("", 4, 4, 4);
        due("16, at once", council.agrees(0), 0);
        due("16, no notes", council.agrees(1), 0);
        council.elder(1, 0, 5);
        due("16, never", council.agrees(0), -1);
        due("16, never", council.agrees(1), -1);
        due("16, others", council.agrees(2), -1);
        due("16, others", council.agrees(-1), -1);
        Object[] texts = {"left 1;word if hour=5?me:0 end;", 6, 18, "left 1;word if hour=40?me:0 end;", -1, -1,
            "left 1;word if hour=39?me:0 end;", 40, 120, "left 1;word if hour=41?me:0 end;", 0, 0,
            "left 1;word if hour=2 or hour=7?me:0 end;right if me=1 and hour>0?3:-1 end;", 8, 31};
        for (int i = 0; i < texts.length; i += 3) {
            RingCouncil other = Checks.council((String) texts[i], 0, 0, 0);
            due("16, hour of " + texts[i], other.agrees(0), (Integer) texts[i + 1]);
            due("16, notes of " + texts[i], other.agrees(1), (Integer) texts[i + 2]);
            other.bar(1, true);
            due("16, barred hour of " + texts[i], other.agrees(0), (Integer) texts[i + 1]);
            due("16, notes that came through of " + texts[i], other.agrees(1), i == 12 ? 7 : Math.min(0, (Integer) texts[i + 2]));
        }
        RingCouncil spread = Checks.council(GREATEST, 9, 0, 0, 0);
        spread.hours(3);
        due("16, tried from the start", spread.agrees(0), 6);
        due("16, notes", spread.agrees(1), 24);
        due("16, changes nothing", spread.about(1), 3);
        spread.elder(2, 1, 0);
        spread.lies(2, 1, 9, false);
        due("16, with a liar", spread.agrees(0), 2);
        due("16, his notes too", spread.agrees(1), 10);
    }

    private void runs() {
        RingCouncil council = Checks.council("word if gotleft=1 or gotright=1?1:0 end;", 0, 0, 0);
        due("17, no liar", council.holds(6, 2), 1);
        due("18, no liar", council.states(6, 2), 1);
        due("19, no liar", council.bad(6, 2, 0, 0, 0), -3);
        council.elder(2, 1, 0);
        due("17, hour 0", council.holds(0, 1), 1);
        due("18, hour 0", council.states(0, 1), 1);
        due("17, greatest note 0", council.holds(1, 0), 1);
        due("18, greatest note 0", council.states(1, 0), 8);
        due("17, greatest note 1", council.holds(1, 1), 0);
        due("18, greatest note 1", council.states(1, 1), 18);
        due("18, greatest note 2", council.states(1, 2), 32);
        due("18, hour 2", council.states(2, 1), 18);
        int[][] bad = {{1, 0, -1, 1, 0}, {2, 0, -1, -1, 0}, {2, 1, -1, 1, 0}, {3, 1, -1, -1, 0}, {3, 2, -1, 1, 0}};
        for (int[] b : bad) {
            for (int what = 0; what < 3; what++) {
                due("19, bad(" + b[0] + ", 1, " + b[1] + ", 0, " + what, council.bad(b[0], 1, b[1], 0, what), b[2 + what]);
            }
        }
        due("19, it holds", council.bad(1, 0, 0, 0, 0), -3);
        int[][] wrong = {{-1, 1}, {7, 1}, {1, -1}, {1, 3}, {LOW, 0}, {HIGH, 0}, {0, LOW}, {0, HIGH}};
        for (int[] w : wrong) {
            due("17, wrong", council.holds(w[0], w[1]), -1);
            due("18, wrong", council.states(w[0], w[1]), -1);
            due("19, wrong", council.bad(w[0], w[1], 0, 0, 0), -3);
        }
        int[][] wrongBad = {{-1, 0, 0}, {1, 0, 0}, {0, -1, 0}, {0, 1, 0}, {0, 2, 0}, {0, 0, -1}, {0, 0, 3}, {HIGH, 0, 0},
            {0, HIGH, 0}, {0, 0, HIGH}, {LOW, 0, 0}};
        for (int[] w : wrongBad) {
            due("19, wrong", council.bad(1, 1, w[0], w[1], w[2]), -3);
        }
        due("19, hour 0 has none", council.bad(0, 1, 0, 0, 0), -3);
        council.bar(1, true);
        due("17, barred", council.holds(1, 1), 1);
        due("18, barred", council.states(1, 1), 8);
        council.stuck(2, true);
        due("18, stuck", council.states(1, 1), 4);
        RingCouncil late = Checks.council("left if gotleft=1?5:-1 end; word if gotright=5 and hour=2?3:0 end;", 0, 0, 0);
        late.elder(0, 1, 0);
        due("17, not yet", late.holds(1, 1), 1);
        due("17, in hour 2", late.holds(2, 1), 1);
        late.elder(0, 0, 0);
        late.elder(2, 1, 0);
        due("17, in hour 2", late.holds(2, 1), 1);
        RingCouncil four = Checks.council("left if gotright=1?5:-1 end; word if gotright=5 and hour=2?3:0 end;", 0, 0, 0, 0);
        four.elder(3, 1, 0);
        due("17, hour 1", four.holds(1, 1), 1);
        due("17, hour 2", four.holds(2, 1), 0);
        due("19, hour 0, left", four.bad(2, 1, 0, 0, 0), 1);
        due("19, hour 0, right", four.bad(2, 1, 0, 0, 1), -1);
        due("19, hour 0, pull", four.bad(2, 1, 0, 0, 2), 0);
        due("19, hour 1, left", four.bad(2, 1, 1, 0, 0), -1);
        due("17, by hour 3 it's over", four.holds(3, 1), 1);
        four.elder(0, 0, 1);
        due("17, hour 0", four.holds(0, 1), 1);
        four.by(-1);
        due("17, hour 0, unlike", four.holds(0, 1), 0);
        due("17, hour 2, unlike in the first state", four.holds(2, 1), 0);
        RingCouncil high = Checks.council("left 99; right if gotright=99 and hour=1?99:-1 end; keep if hour=0?99:kept end;"
            + "word if gotleft=99 and gotright=99 and kept=99?me:0 end;", 0, 0, 0, 0);
        high.elder(3, 1, 0);
        due("18, notes of 99", high.states(3, 0), 8);
        due("17, hour 1", high.holds(1, 0), 1);
        due("17, hour 2", high.holds(2, 0), 0);
        due("17, hour 3", high.holds(3, 0), 1);
        due("17, changes nothing", four.about(1), 0);
    }

    private void runsOfTwo() {
        RingCouncil council = Checks.council("word if bell=2?me:0 end;", 0, 0, 0, 0);
        council.elder(1, 1, 0);
        council.elder(3, 1, 0);
        due("18, two", council.states(1, 0), 48);
        due("18, two", council.states(1, 2), 768);
        due("17, two", council.holds(1, 0), 0);
        for (int liar = 0; liar < 2; liar++) {
            due("19, left", council.bad(1, 0, 0, liar, 0), -1);
            due("19, right", council.bad(1, 0, 0, liar, 1), -1);
            due("19, pull", council.bad(1, 0, 0, liar, 2), 1);
        }
        council.stuck(1, true);
        due("18, stuck", council.states(1, 0), 32);
        due("17, stuck", council.holds(1, 0), 1);
        council.stuck(1, false);
        council.elder(1, 0, 0);
        council.elder(2, 1, 0);
        Checks.text(council, "word if gotleft=2 and bell=1?me:0 end;");
        council.by(1);
        due("17, the other is faster", council.holds(1, 2), 1);
        Checks.text(council, "word if gotleft=2 and bell=1?7:0 end;");
        council.by(2);
        due("17, the other is faster", council.holds(1, 2), 0);
        int[] wants = {-1, -1, 0, -1, 2, 1};
        for (int i = 0; i < 6; i++) {
            due("19, liar " + i / 3 + ", " + i % 3, council.bad(1, 2, 0, i / 3, i % 3), wants[i]);
        }
        council.elder(0, 1, 0);
        due("17, three liars", council.holds(1, 0), -1);
        due("18, three liars", council.states(1, 0), -1);
        due("19, three liars", council.bad(1, 0, 0, 0, 0), -3);
    }

    private void runsSpent() {
        String bits = "keep if me=1?if kept*2+gotleft+1>24?24:kept*2+gotleft+1 end"
            + ":if kept*2+gotright+1>19?19:kept*2+gotright+1 end end;";
        RingCouncil council = Checks.council(bits, 0, 0, 0);
        council.elder(0, 1, 0);
        council.stuck(0, true);
        due("18, hour 5", council.states(5, 0), 1024);
        due("18, just 2000", council.states(6, 0), 2000);
        due("17, just 2000", council.holds(6, 0), 0);
        for (int what = 0; what < 3; what++) {
            due("19, hour 4", council.bad(6, 0, 4, 0, what), what == 0 ? -1 : 0);
            due("19, hour 5", council.bad(6, 0, 5, 0, what), what == 2 ? 0 : -1);
        }
        council.stuck(0, false);
        due("18, hour 4", council.states(4, 0), 512);
        due("18, spent", council.states(5, 0), -2);
        due("18, spent on the way", council.states(6, 0), -2);
        due("17, spent", council.holds(5, 0), -2);
        due("19, spent", council.bad(5, 0, 0, 0, 0), -2);
        due("19, no such liar", council.bad(5, 0, 0, 1, 0), -3);
        due("19, no such hour", council.bad(5, 0, 5, 0, 0), -3);
        Checks.text(council, "keep if me=1?if kept*2+gotleft+1>23?23:kept*2+gotleft+1 end"
            + ":if kept*2+gotright+1>20?20:kept*2+gotright+1 end end;");
        council.by(1);
        council.stuck(0, true);
        due("18, 2016", council.states(6, 0), -2);
        due("18, changes nothing", council.of(1, 0), 0);
    }

    private void telling() {
        RingCouncil council = new RingCouncil(3);
        due("21, nothing", council.forget(), 0);
        due("20, one", council.told(1, -1, 99), 1);
        due("27, told", council.about(6), 1);
        due("27, room", council.about(7), 1);
        int[][] wrong = {{-1, 0, 0}, {3, 0, 0}, {2, -2, 0}, {2, 100, 0}, {2, 0, -2}, {2, 0, 100}, {LOW, 0, 0},
            {HIGH, 0, 0}, {2, LOW, HIGH}};
        for (int[] w : wrong) {
            due("20, wrong", council.told(w[0], w[1], w[2]), -1);
        }
        due("20, wrong ones forget nothing", council.about(6), 1);
        for (int i = 2; i <= 8; i++) {
            due("20, more", council.told(1, 0, 0), i);
        }
        due("20, there are 8", council.told(1, 0, 0), -1);
        due("20, another room", council.told(0, 0, 0), 1);
        due("27, room", council.about(7), 0);
        due("20, more", council.told(0, 0, 0), 2);
        due("21, forget", council.forget(), 2);
        due("21, nothing", council.forget(), 0);
        due("27, told", council.about(6), 0);
        due("27, no room", council.about(7), -1);
        due("20, the same room anew", council.told(0, 0, 0), 1);
    }

    private void suspects() {
        RingCouncil council = Checks.council(GREATEST, 1, 2, 3, 2);
        due("22, nothing is told", council.suspects(0), -1);
        council.told(1, 1, -1);
        due("22, nobody, and those who may keep still", council.suspects(0), 512 + 4 + 8);
        due("22, greatest note 1", council.suspects(1), 512 + 1 + 4 + 8);
        due("22, wrong", council.suspects(3), -1);
        due("22, wrong", council.suspects(-1), -1);
        due("22, wrong", council.suspects(HIGH), -1);
        council.told(1, 0, -1);
        due("22, the left one only", council.suspects(0), 0);
        due("22, the left one only", council.suspects(1), 1);
        council.forget();
        council.told(1, 1, -1);
        council.told(1, 1, -1);
        council.told(1, 2, -1);
        due("22, nobody lies, or one who writes as he would", council.suspects(2), 512 + 1 + 4 + 8);
        due("22, greatest note 1", council.suspects(1), 512 + 4);
        council.elder(3, 1, 2);
        due("22, a liar is sound", council.suspects(1), 512 + 4);
        council.elder(3, 2, 2);
        due("22, a sleeper sleeps, or lies", council.suspects(2), 1 + 8);
        council.elder(3, 0, 2);
        council.bar(2, true);
        due("22, barred", council.suspects(2), 0);
        council.bar(2, false);
        council.forget();
        council.told(1, 1, 2);
        due("22, the right one", council.suspects(2), 4);
        due("22, changes nothing", council.about(6), 1);
        due("22, the kind is as it was", council.of(2, 4), 0);
        RingCouncil eight = Checks.council("left hour;", 0, 0, 0);
        eight.elder(0, 1, 0);
        for (int i = 0; i < 7; i++) {
            eight.told(2, -1, i);
        }
        due("22, a liar in room 0 is sound", eight.suspects(0), 512 + 2);
        eight.told(2, -1, 6);
        due("22, the eighth hour", eight.suspects(0), 0);
        RingCouncil bells = Checks.council("right bell;", 0, 0, 0, 0);
        bells.told(0, 0, -1);
        bells.told(0, 1, -1);
        due("22, who pulled", bells.suspects(1), 2 + 4 + 8);
        bells.stuck(2, true);
        due("22, whose rope is stuck didn't", bells.suspects(1), 2 + 8);
        due("22, room 3 writes it himself", bells.suspects(0), 2);
    }

    private void suspectsSpent() {
        RingCouncil council = Checks.council("keep kept*2+gotleft+gotright+2;", 0, 0, 0, 0, 0, 0, 0, 0, 0);
        for (int i = 0; i < 4; i++) {
            council.told(4, -1, -1);
        }
        council.told(4, 5, -1);
        due("22, just those as told count", council.suspects(0), 0);
        council.told(4, -1, -1);
        council.forget();
        for (int i = 0; i < 5; i++) {
            council.told(4, -1, -1);
        }
        council.told(4, 5, -1);
        due("22, 2001 count as one", council.suspects(0), 1 + 2 + 4 + 64 + 128 + 256);
    }

    private void slips() {
        RingCouncil council = Checks.council("right 99; word gotleft;", 0, 0, 0);
        due("23, 99 comes as 0", council.slips(1, 0, 0, -1), 1);
        due("23, which", council.slips(1, 0, 0, 0), 21);
        due("23, no more", council.slips(1, 0, 0, 1), -1);
        due("23, without effect", council.slips(1, 0, 9, -1), 2);
        due("23, first", council.slips(1, 0, 9, 0), 1);
        due("23, second", council.slips(1, 0, 9, 1), 11);
        due("23, no word", council.slips(1, 0, 5, -1), 0);
        due("23, none of it", council.slips(1, 0, 5, 0), -1);
        due("23, in hour 19", council.slips(20, 0, 0, 0), 1921);
        due("23, in hour 19", council.slips(20, 0, 0, -1), 1);
        due("23, all the others", council.slips(20, 0, 9, -1), 59);
        due("23, far", council.slips(20, 0, 9, HIGH), -1);
        int[][] wrong = {{0, 0, 0, -1}, {21, 0, 0, -1}, {1, -1, 0, -1}, {1, 3, 0, -1}, {1, 0, -1, -1}, {1, 0, 10, -1},
            {1, 0, 9, -2}, {LOW, 0, 0, -1}, {HIGH, 0, 0, -1}, {1, HIGH, 0, -1}, {1, 0, HIGH, -1}, {1, 0, 9, LOW}};
        for (int[] w : wrong) {
            due("23, wrong", council.slips(w[0], w[1], w[2], w[3]), -1);
        }
        council.bar(99, true);
        due("23, barred ones don't come", council.slips(1, 0, 9, -1), 0);
        RingCouncil both = Checks.council("left 4; right 4; word gotleft+gotright-8;", 0, 0, 0);
        both.bar(5, true);
        due("23, wrong by one, though barred", both.slips(1, 1, 1, -1), 2);
        due("23, the right note of room 0", both.slips(1, 1, 1, 0), 1);
        due("23, the left note of room 2", both.slips(1, 1, 1, 1), 20);
        both.elder(0, 1, 0);
        both.lies(0, -1, 4, false);
        due("23, a liar's note too", both.slips(1, 1, 1, 0), 1);
        due("23, five notes are left", both.slips(1, 1, 0, -1), 3);
        both.elder(2, 2, 0);
        due("23, a sleeper writes none", both.slips(1, 1, 0, -1), 3);
        RingCouncil spread = Checks.council(GREATEST, 1, 2, 3);
        spread.hours(2);
        due("23, tried from the start", spread.slips(2, 0, 4, -1), 1);
        due("23, changes nothing", spread.about(1), 2);
        RingCouncil lefts = Checks.council("left 0; word gotright;", 0, 0, 0);
        due("23, room 0 to the left", lefts.slips(1, 2, 1, 0), 0);
        due("23, once", lefts.slips(1, 2, 1, -1), 1);
        due("23, room 1 to the left", lefts.slips(1, 0, 1, 0), 10);
    }

    private void learning() {
        RingCouncil council = Checks.council("right first/3; left if hour=1?first-me*5:-1 end; rope first=9;", 4, 4, 4, 4);
        due("24, nothing in no hours", council.learns(0, 0, 0), 1);
        due("24, to the right", council.learns(0, 1, 0), 4);
        due("24, both ways", council.learns(3, 2, 0), 10);
        due("24, from the right", council.learns(0, 2, 1), 6);
        due("24, from the right, not yet", council.learns(0, 1, 1), 1);
        due("24, elsewhere", council.learns(2, 20, 1), 1);
        due("24, round the ring", council.learns(3, 1, 3), 4);
        council.bar(0, true);
        council.bar(1, true);
        due("24, barred", council.learns(0, 1, 0), 3);
        council.elder(0, 2, 4);
        due("24, a sleeper", council.learns(0, 1, 0), 1);
        due("24, changes nothing", council.of(0, 5), 4);
        int[][] wrong = {{-1, 0, 0}, {4, 0, 0}, {0, -1, 0}, {0, 21, 0}, {0, 0, -1}, {0, 0, 4}, {HIGH, 0, 0}, {0, HIGH, 0},
            {0, 0, HIGH}, {LOW, LOW, LOW}};
        for (int[] w : wrong) {
            due("24, wrong", council.learns(w[0], w[1], w[2]), -1);
        }
        RingCouncil far = Checks.council("right kept; keep if gotleft>=0?gotleft:kept end;", 0, 0, 0, 0, 0);
        RingCouncil back = Checks.council("left if hour=0?first:-1 end;", 0, 0, 0);
        due("24, in hour 0 from the right", back.learns(1, 3, 2), 10);
        due("24, two rooms on, too soon", far.learns(2, 4, 0), 1);
        due("24, two rooms on", far.learns(2, 5, 0), 10);
    }

    private void images() {
        RingCouncil council = Checks.council(GREATEST, 1, 2, 3);
        council.hours(2);
        council.bar(9, true);
        council.told(2, 1, 1);
        council.elder(1, 1, 4);
        council.lies(1, 7, 8, true);
        council.stuck(0, true);
        due("25, image", council.image(), 2);
        Checks.text(council, "keep 1;");
        council.by(1);
        council.hours(45);
        council.bar(8, true);
        council.bar(9, false);
        council.told(2, 3, 3);
        council.told(0, 3, 3);
        council.elder(1, 0, 0);
        council.lies(1, -1, -1, false);
        council.stuck(0, false);
        Checks.text(council, "@");
        Checks.tape(council, "left");
        due("26, back", council.back(), 2);
        abouts("26, back", council, 3, 2, 0, 1, 0, 2, 1, 2, 4, 1);
        due("26, the fault isn't taken back", council.fault(0), 1);
        room("26, back", council, 0, 3, 3, -1, 3, 0, 1, 1);
        room("26, back", council, 1, 2, 1, -1, 2, 1, 4, 0);
        due("26, text 1 is gone", council.by(1), false);
        council.hours(1);
        room("26, lies are back", council, 2, 3, 8, -1);
        room("26, lies are back", council, 0, 3, 3, 7);
        due("26, pulls are back", council.about(2), 1);
        due("26, it stays", council.back(), 2);
        due("26, taken back", council.undo(), 1);
        due("26, taken back", council.undo(), 0);
        due("26, taken back", council.undo(), -1);
        room("26, the start", council, 2, 3, -1, -1);
        due("26, it stays", council.back(), 2);
        due("26, the same text is read anew", Checks.text(council, "word 8;"), 1);
        council.by(1);
        due("26, a new text 1", council.of(2, 3), 8);
        due("25, anew", council.image(), 2);
        council.start();
        due("26, back", council.back(), 2);
        due("26, text 1 rules", council.of(2, 3), 8);
        council.hours(98);
        council.image();
        council.start();
        council.hours(3);
        due("26, back", council.back(), 100);
        due("26, 40 are kept", council.about(5), 40);
        for (int hour = 99; hour >= 60; hour--) {
            due("26, taken back", council.undo(), hour);
        }
        due("26, no more", council.undo(), -1);
    }

    private void about() {
        RingCouncil council = Checks.council("rope me=1; word 1;", 1, 1, 1, 1);
        council.hours(5);
        council.bar(3, true);
        council.told(2, 1, 1);
        Checks.tape(council, "word 2;");
        abouts("27", council, 4, 5, 1, 1, 0, 5, 1, 2, 7, 1);
        int[] wrong = {-1, 10, LOW, HIGH};
        for (int what : wrong) {
            due("27, others", council.about(what), -2);
        }
    }
}
