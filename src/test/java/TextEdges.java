/** The edges of the tape and of texts without a fault: promises 6 to 8, and terms II. */
final class TextEdges {

    private static final int LOW = Edges.LOW;
    private static final int HIGH = Edges.HIGH;
    private static final int BLANK = 0x20202020;

    private final Edges edges;

    TextEdges(Edges edges) {
        this.edges = edges;
    }

    void all() {
        feeding();
        feedingRefused();
        ending();
        endingRefused();
        texts();
        textsRefused();
        textsTakenBack();
        textsBehindFaults();
        longest();
        blanks();
        clauses();
        cutting();
        bounds();
        chosen();
        asking();
    }

    private static RingCouncil blankTape(int length) {
        RingCouncil council = new RingCouncil(3);
        for (int bytes = 0; bytes < length; bytes += 20) {
            council.feed(BLANK, BLANK, BLANK, BLANK, BLANK);
        }
        council.end(length);
        return council;
    }

    private void feeding() {
        edges.sentence("6", "Twenty bytes come behind the tape, the highest of a first: how many it has.");
        for (int place = 0; place < 20; place++) {
            RingCouncil council = blankTape(7);
            int[] words = {BLANK, BLANK, BLANK, BLANK, BLANK};
            words[place / 4] ^= 0xA0 << 24 - place % 4 * 8;
            edges.due("behind 7", council.feed(words[0], words[1], words[2], words[3], words[4]), 27);
            edges.due("a byte of 128 is none", council.text(), -1);
            edges.due("where it came", council.fault(1), 7 + place);
        }
        RingCouncil council = new RingCouncil(3);
        for (int i = 1; i <= 15; i++) {
            edges.due("to the full tape", council.feed(LOW, -1, 0, HIGH, i), 20 * i);
        }
        edges.due("just 300", blankTape(280).feed(0, 0, 0, 0, 0), 300);
    }

    private void feedingRefused() {
        edges.sentence("6", "NONE, and none come, if there would be more than 300.");
        int[] lengths = {281, 282, 290, 299, 300};
        for (int length : lengths) {
            edges.changesNothing("feed behind " + length, () -> blankTape(length),
                council -> council.feed(BLANK, BLANK, BLANK, BLANK, 0), -1);
        }
        RingCouncil council = blankTape(300);
        council.feed(0, 0, 0, 0, 0);
        edges.due("it has what it had", council.about(8), 300);
        edges.due("blanks alone", council.text(), 0);
        edges.due("and room again", council.feed(0, 0, 0, 0, 0), 20);
    }

    private void ending() {
        edges.sentence("7", "The tape has its first n bytes alone: n.");
        edges.due("none of none", new RingCouncil(3).end(0), 0);
        edges.due("all 300", blankTape(300).end(300), 300);
        edges.due("all but one", blankTape(300).end(299), 299);
        RingCouncil council = new RingCouncil(3);
        Checks.tape(council, "word 12;word");
        edges.due("all", council.end(12), 12);
        edges.due("fewer", council.end(6), 6);
        edges.due("bytes", council.about(8), 6);
        council.feed(0x3B202020, BLANK, BLANK, BLANK, BLANK);
        edges.due("behind the first ones alone", council.text(), 0);
        council.by(0);
        edges.due("word 1", council.of(0, 3), 1);
        Checks.tape(council, "word 2;");
        edges.due("none", council.end(0), 0);
        edges.due("none", council.about(8), 0);
        edges.due("a text of none", council.text(), 1);
    }

    private void endingRefused() {
        edges.sentence("7", "NONE, and nothing is done, if it has not so many, or n is below 0.");
        int[] wrong = {-1, -300, LOW, 8, 9, 300, HIGH};
        for (int n : wrong) {
            edges.changesNothing("end(" + n + ") of 7", council -> council.end(n), -1);
        }
        edges.due("1 of none", new RingCouncil(3).end(1), -1);
        edges.due("-1 of none", new RingCouncil(3).end(-1), -1);
        edges.due("301 of 300", blankTape(300).end(301), -1);
        RingCouncil council = new RingCouncil(3);
        Checks.tape(council, "word 12;");
        council.end(6);
        edges.due("what was cut off is gone", council.end(7), -1);
    }

    private void texts() {
        edges.sentence("8", "The tape (empty then) is a TEXT: its number.");
        RingCouncil council = new RingCouncil(3);
        edges.due("of no bytes", council.text(), 0);
        for (int number = 1; number < 4; number++) {
            Checks.tape(council, "word " + number + ";");
            edges.due("its number", council.text(), number);
            edges.due("the tape is empty", council.about(8), 0);
            edges.due("TEXTS", council.about(3), number + 1);
        }
        for (int number = 3; number >= 0; number--) {
            council.by(number);
            edges.due("each is as it was read", council.of(0, 3), number);
        }
    }

    private void textsRefused() {
        edges.sentence("8", "NONE: it has a FAULT; or (the tape stays) there are 4.");
        RingCouncil council = Checks.council("word 3;", 1, 1, 1);
        edges.due("a FAULT", Checks.text(council, "word 4"), -1);
        edges.due("the tape is empty", council.about(8), 0);
        edges.due("no TEXT more", council.about(3), 1);
        edges.due("it can't rule", council.by(1), false);
        edges.due("the other one rules as before", council.of(0, 3), 3);
        edges.due("the number isn't used up", Checks.text(council, "word 5;"), 1);
        edges.due("a FAULT, with two", Checks.text(council, "@"), -1);
        council.by(1);
        edges.due("the other one rules as before", council.of(0, 3), 5);
        String[] tapes = {"word 9;", "word 9", "", "@"};
        for (String tape : tapes) {
            edges.changesNothing("a fifth", () -> full(tape), RingCouncil::text, -1);
            RingCouncil full = full(tape);
            full.text();
            edges.due("the tape stays", full.about(8), tape.length());
            edges.due("and isn't read", full.fault(0), 0);
        }
    }

    /** Four texts, of which the first rules, and something on the tape. */
    private static RingCouncil full(String tape) {
        RingCouncil council = Checks.council("word 6;", 0, 0, 0);
        for (int i = 1; i < 4; i++) {
            Checks.text(council, "word " + i + ";");
        }
        Checks.tape(council, tape);
        return council;
    }

    private void textsTakenBack() {
        edges.sentence("8", "The tape (empty then) is a TEXT: its number.");
        RingCouncil council = Checks.council("word 1;", 0, 0, 0);
        council.image();
        for (int i = 1; i < 4; i++) {
            Checks.text(council, "word " + (i + 1) + ";");
        }
        council.back();
        for (int i = 1; i < 4; i++) {
            edges.due("room again behind BACK", Checks.text(council, "word " + (i + 5) + ";"), i);
        }
        edges.due("full again", Checks.text(council, "word 9;"), -1);
        for (int i = 0; i < 4; i++) {
            council.by(i);
            edges.due("the new ones", council.of(0, 3), i == 0 ? 1 : i + 5);
        }
    }

    private void textsBehindFaults() {
        edges.sentence("8", "The tape (empty then) is a TEXT: its number.");
        RingCouncil council = new RingCouncil(3);
        for (int i = 0; i < 3; i++) {
            edges.due("a long one, with a FAULT", Checks.text(council, "word 1" + "+1".repeat(146) + "@"), -1);
            edges.due("its place", council.fault(1), 298);
        }
        edges.due("a long one without", Checks.text(council, "word 1" + "*1".repeat(146) + ";"), 0);
        council.by(0);
        edges.due("its word", council.of(0, 3), 1);
        edges.due("clauses of a FAULT", Checks.text(council, "word 3;left 4;right"), -1);
        edges.due("don't count in the next one", Checks.text(council, "left 5;word 2;"), 1);
        council.by(1);
        council.hours(1);
        edges.room("the next one", council, 0, 0, -1, 5, 2);
    }

    private void longest() {
        edges.sentence(Edges.TERMS, "TEXTS 0 .. 3: of up to 300 bytes.");
        String[] texts = {"word 01" + "+0".repeat(145) + "+7;", "word " + "0".repeat(293) + "8;",
            " ".repeat(293) + "word 8;", "word 8;" + "\n".repeat(293), "word 8" + "-rooms".repeat(48) + "*0+ 0;"};
        int[] words = {8, 8, 8, 8, 0};
        for (int i = 0; i < texts.length; i++) {
            edges.due("bytes", texts[i].length(), 300);
            RingCouncil council = new RingCouncil(3);
            edges.due("300 bytes", Checks.tape(council, texts[i]), 300);
            edges.due("are a text", council.text(), 0);
            council.by(0);
            edges.due("its word", council.of(2, 3), words[i]);
        }
        edges.sentence(Edges.TERMS, "(the longest)");
        String[] ropes = {"rope 1<=1;", "rope 1>=1;", "rope 1<=-1+2;", "rope not 1>=2;"};
        for (String rope : ropes) {
            RingCouncil council = Checks.council(rope, 0, 0, 0);
            council.hours(1);
            edges.due(rope, council.about(2), 3);
        }
    }

    private void blanks() {
        edges.sentence(Edges.TERMS, "TOKENS, blanks (32, 10) aside");
        String[] texts = {" word\n7 ; ", "\n\n word 7\n;\n", "word 3 + 4;", "word(7);", "word if 1 <= 2?7:0 end ;",
            "keep 1;word 7;", "word\n7;rope\n1=1;"};
        for (String text : texts) {
            edges.due(text, Checks.council(text, 0, 0, 0).of(0, 3), 7);
        }
        int[] signs = {0, 9, 11, 12, 13, 31, 33, 127, 128, 160, 255};
        for (int sign : signs) {
            RingCouncil council = new RingCouncil(3);
            edges.due("no blank: " + sign, Checks.text(council, "word " + (char) sign + "7;"), -1);
            edges.due("no blank: " + sign, council.fault(1), 5);
        }
    }

    private void clauses() {
        edges.sentence(Edges.TERMS, "{CLAUSE}, 12 at most");
        RingCouncil none = Checks.council(" ", 4, 4, 4);
        edges.due("none rules too", none.about(4), 0);
        none.hours(1);
        edges.room("without: as it was, and none", none, 1, 4, -1, -1, 4);
        edges.due("without: no pull", none.about(2), 0);
        String[] texts = {"rope 1=0;".repeat(8) + "keep 2;left 3;right 4;word 5;",
            "keep 2;left 3;right 4;word 5;" + "rope 1=0;".repeat(7) + "rope 1=1;",
            "rope 1=1;".repeat(6) + "word 5;right 4;left 3;keep 2;" + "rope 1=0;".repeat(2)};
        for (int i = 0; i < texts.length; i++) {
            RingCouncil council = Checks.council(texts[i], 1, 1, 1);
            edges.due("twelve", council.about(4), 0);
            council.hours(1);
            edges.room("all of them", council, 0, 2, 4, 3, 5);
            edges.due("one pull of each", council.about(2), i == 0 ? 0 : 3);
        }
    }

    private int kept(String sum) {
        RingCouncil council = Checks.council("keep " + sum + ";", 0, 0, 0);
        council.hours(1);
        return council.of(1, 0);
    }

    private void cutting() {
        edges.sentence(Edges.TERMS, "/ cuts towards 0, by 0 it is 0");
        String[] sums = {"7/2", "8/2", "1/2", "50+-7/2", "50+7/-2", "-7/-2", "50+-1/2", "50+1/-2", "50+7/0", "50+0/0", "50+-7/0",
            "50+7/(me-me)", "9999/9999", "50+0/7", "7/2/2", "50+7/0/0", "2*7/3", "7/3*2", "50+1000*1000/0", "7/bell+5"};
        int[] wants = {3, 4, 0, 47, 47, 3, 50, 50, 50, 50, 50, 50, 1, 50, 1, 50, 4, 4, 50, 5};
        for (int i = 0; i < sums.length; i++) {
            edges.due(sums[i], kept(sums[i]), wants[i]);
        }
    }

    private void bounds() {
        edges.sentence(Edges.TERMS, "what is above 1000000 (below the same less) is that, at each step");
        String[] sums = {"1000*1000/5000-150", "1000*1000+1-999*1000-999", "1000*1000-1-999*1000-990", "9999*9999/5000/4",
            "1000*1000*2/2/5000/4", "1000*1000+1000*1000-999*1000-990", "1000*1000+9-9-999*1000-990",
            "-(1000*1000)-9+999*1000+1009", "-(1000*1000)-1+999*1000+1009", "-(1000*1000)+1+999*1000+1008",
            "-1000*1000*2+999*1000+1010", "0-1000*1000-1000*1000+999*1000+1007",
            "9999*-9999+999*1000+1005", "1000*1000*(1000*1000)/5000/4", "-1000*1000*(-1000*1000)/5000/4",
            "1000*1000*(-1000*1000)+999*1000+1003", "--(1000*1000)/5000/4", "9*9999+9999*91-999*1000-990+100"};
        int[] wants = {50, 1, 9, 50, 25, 10, 1, 9, 9, 9, 10, 7, 5, 50, 50, 3, 50, 10};
        for (int i = 0; i < sums.length; i++) {
            edges.due(sums[i], kept(sums[i]), wants[i]);
        }
        edges.sentence(Edges.TERMS, "digits likewise (NUMBERS, 0 .. 9999)");
        edges.due("0", kept("0"), 0);
        edges.due("9999", kept("9999-9990"), 9);
        edges.due("000009999", kept("000009999-9990"), 9);
        edges.due("0000", kept("0000"), 0);
        edges.due("0098", kept("0098"), 98);
    }

    private void chosen() {
        edges.sentence(Edges.TERMS, "of if just the SUM that is chosen is worked");
        String[] sums = {"if 1=1?7:1000*1000*1000 end", "if 1=0?1/0:7 end", "if 1=1?if 1=0?1:7 end:3 end",
            "if 1=0?3:if 1=1?7:1 end end", "if 1=1?3:4 end+if 1=0?3:4 end", "if 1=0 or 1=1 and 1=0?3:7 end",
            "if if 1=0?1:2 end=2?7:9 end", "if not 1=1 or 2=2?7:3 end", "if 1=0 and 1=1 or 1=1?7:3 end"};
        for (String sum : sums) {
            edges.due(sum, kept(sum), 7);
        }
    }

    private void asking() {
        edges.sentence(Edges.TERMS, "ASK: not ASK, or SUM one of < <= > >= = # (unlike) SUM.");
        String[] signs = {"<", "<=", ">", ">=", "=", "#"};
        String[] so = {"1<2", "1<=2 2<=2", "2>1", "2>=1 2>=2", "2=2", "1#2 2#1"};
        for (int i = 0; i < signs.length; i++) {
            for (int pair = 0; pair < 3; pair++) {
                String ask = (pair == 2 ? "2" : "" + (pair + 1)) + signs[i] + (pair == 2 ? "1" : "2");
                boolean is = so[i].contains(ask);
                edges.due(ask, kept("if " + ask + "?7:3 end"), is ? 7 : 3);
                edges.due("not " + ask, kept("if not " + ask + "?7:3 end"), is ? 3 : 7);
                edges.due("not not " + ask, kept("if not not " + ask + "?7:3 end"), is ? 7 : 3);
                edges.due(ask + " and 1=1", kept("if " + ask + " and not 1=0?7:3 end"), is ? 7 : 3);
                edges.due(ask + " or 1=0", kept("if " + ask + " or not 1=1?7:3 end"), is ? 7 : 3);
            }
        }
        edges.due("-1 is less than 0", kept("if -1<0 and 0>-1 and -1#0 and not -1=0?7:3 end"), 7);
        edges.sentence(Edges.TERMS, "or and and look at both sides always");
        edges.due("neither", kept("if 1=0 or 1=0?3:7 end"), 7);
        edges.due("the left one", kept("if 1=1 or 1/0=1?7:3 end"), 7);
        edges.due("the right one", kept("if 1/0=1 or 1=1?7:3 end"), 7);
        edges.due("just one of two", kept("if 1=1 and 1/0=1?3:7 end"), 7);
        edges.due("just one of three", kept("if 1=0 or 1=1 or 1=0?7:3 end"), 7);
        edges.due("two of three", kept("if 1=1 and 1=0 and 1=1?3:7 end"), 7);
    }
}
