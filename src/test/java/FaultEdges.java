/** The edges of faults: promise 9, and the faults of terms II. */
final class FaultEdges {

    private static final String ROPE = "rope 1=1;";
    private static final String TWELVE = ROPE.repeat(12);

    private final Edges edges;

    FaultEdges(Edges edges) {
        this.edges = edges;
    }

    void all() {
        latest();
        others();
        cannotStand();
        standing();
        atTheEnd();
        isNone();
        tooGreat();
        openAround();
        closed();
        twice();
        thirteenth();
        least();
        first();
    }

    private void wrong(String text, int fault, int place) {
        RingCouncil council = new RingCouncil(3);
        edges.due(text, Checks.text(council, text), -1);
        edges.due("FAULT of " + text, council.fault(0), fault);
        edges.due("place of " + text, council.fault(1), place);
    }

    private void right(String text) {
        RingCouncil council = new RingCouncil(3);
        edges.due(text, Checks.text(council, text), 0);
        edges.due("FAULT of " + text, council.fault(0), 0);
        edges.due("place of " + text, council.fault(1), -1);
    }

    private void latest() {
        edges.sentence("9", "Of the latest text that was read: 0 its FAULT (0 without), 1 its place (NONE without).");
        RingCouncil council = new RingCouncil(3);
        Object[][] texts = {{"keep 1;", 0, -1}, {"keep", 1, 4}, {"keep 10000;", 2, 5}, {"", 0, -1}, {"@", 1, 0}};
        for (Object[] text : texts) {
            Checks.text(council, (String) text[0]);
            edges.due("FAULT of " + text[0], council.fault(0), (Integer) text[1]);
            edges.due("place of " + text[0], council.fault(1), (Integer) text[2]);
        }
        Checks.tape(council, "keep 1;");
        council.end(0);
        council.image();
        council.back();
        edges.due("no other call changes it", council.fault(0), 1);
        edges.due("no other call changes it", council.fault(1), 0);
        council.text();
        council.text();
        Checks.tape(council, "keep");
        council.text();
        edges.due("what wasn't read, there being 4, isn't the latest", council.fault(0), 0);
        edges.due("what wasn't read, there being 4, isn't the latest", council.fault(1), -1);
    }

    private void others() {
        edges.sentence("9", "NONE for others, and ahead of any.");
        int[] whats = {0, 1, -1, 2, 3, Edges.LOW, Edges.HIGH};
        for (int what : whats) {
            edges.due("ahead of any, " + what, new RingCouncil(3).fault(what), -1);
        }
        RingCouncil council = new RingCouncil(3);
        Checks.tape(council, "keep");
        edges.due("a tape that wasn't read", council.fault(0), -1);
        council.text();
        for (int i = 2; i < whats.length; i++) {
            int what = whats[i];
            edges.due("others, " + what, council.fault(what), -1);
            edges.changesNothing("fault(" + what + ")", busy -> busy.fault(what), -1);
        }
    }

    private void cannotStand() {
        edges.sentence(Edges.TERMS, "1 it can't stand there, or is none.");
        wrong("1", 1, 0);
        wrong(" ;", 1, 1);
        wrong("keep 1;;", 1, 7);
        wrong("keep ;", 1, 5);
        wrong("keep 1 keep", 1, 7);
        wrong("rope 1;", 1, 6);
        wrong("rope 1<2<3;", 1, 8);
        wrong("rope (1<2);", 1, 7);
        wrong("keep 1=1;", 1, 6);
        wrong("keep (1;", 1, 7);
        wrong("keep 1);", 1, 6);
        wrong("keep ();", 1, 6);
        wrong("keep +1;", 1, 5);
        wrong("keep 1*;", 1, 7);
        wrong("keep not 1;", 1, 5);
        wrong("rope not;", 1, 8);
        wrong("rope 1=1 or;", 1, 11);
        wrong("rope or 1=1;", 1, 5);
        wrong("rope and 1=1;", 1, 5);
        wrong("rope not or 1=1;", 1, 9);
        wrong("rope 1=1 or or 1=1;", 1, 12);
        wrong("rope 1=1 and and 1=1;", 1, 13);
        wrong("keep * 1;", 1, 5);
        wrong("keep if or 1=1?1:1 end;", 1, 8);
        wrong("keep if 1?2:3 end;", 1, 9);
        wrong("keep if 1=1:3 end;", 1, 11);
        wrong("keep if 1=1?2?3 end;", 1, 13);
        wrong("keep if 1=1?2:3;", 1, 15);
        wrong("keep 1 end;", 1, 7);
        wrong("rope 1=<2;", 1, 7);
        wrong("rope 1>==2;", 1, 8);
        wrong("rope 1<>2;", 1, 7);
        wrong("rope 1##2;", 1, 7);
        wrong("rope 1= =2;", 1, 8);
        wrong("keep 1 2;", 1, 7);
        wrong("keep kept1;", 1, 9);
        wrong("keep 1kept;", 1, 6);
    }

    /** What may stand where, and that nothing else may; a token of no signs is the end. */
    private void standing() {
        edges.sentence(Edges.TERMS, "1 it can't stand there, or is none.");
        String one = " 1 me kept gotleft gotright bell hour first rooms ( - if ";
        String ask = one + "not ";
        String more = " + - * / ";
        standsOnly(" keep left right word rope ", "", "\n");
        standsOnly(" left right word rope keep ", "keep 1; ");
        standsOnly(one, "keep ", "left ", "right ", "word ", "keep - ", "keep ( ");
        standsOnly(one, "keep 1+ ", "keep 1* ", "keep 1/ ", "keep 1- ");
        standsOnly(one, "rope 1< ", "rope 1<= ", "rope 1> ", "rope 1>= ", "rope 1= ", "rope 1# ", "rope 1=1 or 1# ");
        standsOnly(one, "keep if 1=1? ", "keep if 1=1?1: ", "rope -");
        standsOnly(ask, "rope ", "rope not ", "rope 1=1 or ", "rope 1=1 and ", "keep if ", "keep if not ", "keep if 1=1 or ");
        standsOnly(more + "; ", "keep 1 ", "keep kept ", "keep (1) ", "keep if 1=1?1:1 end ", "keep -1 ", "keep 1+1 ");
        standsOnly(more + "< <= > >= = # ", "rope 1 ", "rope not 1 ", "keep if 1 ", "rope (1) ", "rope 1=1 or 1 ");
        standsOnly(more + "or and ; ", "rope 1=1 ", "rope not 1=1 ", "rope 1=1 and 1=1 ", "rope 1=1 or 1=1 ");
        standsOnly(more + "or and ? ", "keep if 1=1 ", "keep if 1=1 or not 1=1 ");
        standsOnly(more + ") ", "keep (1 ", "keep (1*1 ", "keep ((1) ");
        standsOnly(more + ": ", "keep if 1=1?1 ");
        standsOnly(more + "end ", "keep if 1=1?1:1 ");
    }

    private void standsOnly(String those, String... aheads) {
        String[] tokens = ("keep left right word rope if end or and not me kept gotleft gotright bell hour first rooms 1 "
            + "<= >= < > = # + - * / ( ) ; ? : kep K @ !").split(" ");
        for (String ahead : aheads) {
            for (String token : tokens) {
                RingCouncil council = new RingCouncil(3);
                Checks.text(council, ahead + token);
                boolean stands = council.fault(0) != 1 || council.fault(1) != ahead.length();
                edges.due(token + " behind " + ahead, stands, those.contains(" " + token + " "));
            }
        }
    }

    private void atTheEnd() {
        edges.sentence(Edges.TERMS, "(of the end at the length)");
        wrong("keep", 1, 4);
        wrong("keep   ", 1, 7);
        wrong("keep 1", 1, 6);
        wrong("keep 1\n\n", 1, 8);
        wrong("keep 1;rope", 1, 11);
        wrong("rope 1<", 1, 7);
        wrong("rope 1<2 and", 1, 12);
        wrong("rope not", 1, 8);
        wrong("keep -", 1, 6);
        wrong("keep ((((((((", 1, 13);
        wrong("keep if 1=1?2:3", 1, 15);
        wrong("keep 1" + "+0".repeat(147), 1, 300);
        wrong("keep" + " ".repeat(296), 1, 300);
        right("");
        right("\n \n");
    }

    private void isNone() {
        edges.sentence(Edges.TERMS, "letters a .. z, A .. Z one behind the other (one TOKEN)");
        wrong("keepkept;", 1, 0);
        wrong("kee p 1;", 1, 0);
        wrong("Keep 1;", 1, 0);
        wrong("keeP 1;", 1, 0);
        wrong("keep Kept;", 1, 5);
        wrong("keep keptZ;", 1, 5);
        wrong("keep keptA;", 1, 5);
        wrong("keep keptz;", 1, 5);
        wrong("keep akept;", 1, 5);
        wrong("keep got left;", 1, 5);
        wrong("keep ifone;", 1, 5);
        wrong("keep endless;", 1, 5);
        wrong("keep " + "z".repeat(295), 1, 5);
        edges.sentence(Edges.TERMS, "1 it can't stand there, or is none.");
        for (int sign = 0; sign < 256; sign++) {
            boolean known = sign == 10 || sign >= 'a' && sign <= 'z' || sign >= 'A' && sign <= 'Z' || sign >= '0' && sign <= '9'
                || " <>=#+-*/();?:".indexOf(sign) >= 0;
            if (!known) {
                wrong("keep kept" + (char) sign + ";", 1, 9);
                wrong((char) sign + "keep 1;", 1, 0);
            }
        }
    }

    private void tooGreat() {
        edges.sentence(Edges.TERMS, "2 a NUMBER above 9999.");
        right("keep 9999;");
        right("keep 0;");
        right("keep 00000000009999;");
        right("rope 9999<9999;");
        wrong("keep 10000;", 2, 5);
        wrong("keep 00010000;", 2, 5);
        wrong("keep 99999;", 2, 5);
        wrong("keep 1+ 10000;", 2, 8);
        wrong("rope 1<10000;", 2, 7);
        wrong("keep 2147483648;", 2, 5);
        wrong("keep 4294967296;", 2, 5);
        wrong("keep 18446744073709551617;", 2, 5);
        wrong("keep " + "9".repeat(295), 2, 5);
        wrong("keep ((((((((10000", 2, 13);
    }

    private void openAround() {
        edges.sentence(Edges.TERMS, "3 the 9th of ( not if and - (of one ONE) that are open around one another (at it).");
        right("keep " + "(".repeat(8) + "1" + ")".repeat(8) + ";");
        wrong("keep " + "(".repeat(9) + "1" + ")".repeat(9) + ";", 3, 13);
        right("keep " + "-".repeat(8) + "1;");
        wrong("keep " + "-".repeat(9) + "1;", 3, 13);
        right("rope " + "not ".repeat(8) + "1=1;");
        wrong("rope " + "not ".repeat(9) + "1=1;", 3, 37);
        right("keep " + "if ".repeat(8) + "1" + "=1?1:1 end".repeat(8) + ";");
        wrong("keep " + "if ".repeat(9) + "1" + "=1?1:1 end".repeat(9) + ";", 3, 29);
        right("rope not not if not -(-(1))=1?1:1 end=1;");
        wrong("rope not not if not -(-(-1))=1?1:1 end=1;", 3, 24);
        wrong("rope not not if not -(-((1)))=1?1:1 end=1;", 3, 24);
        wrong("rope not not if not -(-(if 1=1?1:1 end))=1?1:1 end=1;", 3, 24);
        wrong("rope not not if not if not if not not 1", 3, 34);
        wrong("keep if 1=1?" + "(".repeat(8), 3, 19);
        wrong("keep if 1=1?1:" + "(".repeat(8), 3, 21);
        right("keep if 1=1?1:" + "(".repeat(7) + "1" + ")".repeat(7) + " end;");
        wrong("rope 1=1 or not 1=" + "(".repeat(8), 3, 25);
        wrong("rope 1=1 or not 1=1 and 1=" + "(".repeat(9), 3, 34);
    }

    private void closed() {
        edges.sentence(Edges.TERMS, "that are open around one another");
        right("keep " + "(1)+".repeat(40) + "1;");
        right("keep " + "-1-".repeat(40) + "1;");
        right("keep " + "-1*".repeat(40) + "1;");
        right("keep 1" + "-1".repeat(60) + ";");
        right("keep " + "(".repeat(7) + "(1)-(1)--1-1" + ")".repeat(7) + ";");
        right("rope " + "not 1=1 and ".repeat(12) + "not 1=1 or not not 1=1;");
        right("keep " + "if 1=1?1:1 end+".repeat(12) + "1;");
        right("keep -------(1)-(-------1);");
        right("rope not not not not not not not 1=(1) and not not not not not not not (1)=1;");
        right("keep " + "(".repeat(8) + "1" + ")".repeat(8) + ";left " + "(".repeat(8) + "1" + ")".repeat(8) + ";");
        right("rope -------(1)=-------(1) or -------(1)<(1);");
    }

    private void twice() {
        edges.sentence(Edges.TERMS, "4 keep, left, right, word for the second time (at it).");
        String[] kinds = {"keep", "left", "right", "word"};
        for (String kind : kinds) {
            int length = kind.length();
            wrong(kind + " 1;" + kind + " 1;", 4, length + 3);
            wrong(kind + " 1; " + kind, 4, length + 4);
            wrong(kind + " 1;" + ROPE.repeat(11) + kind + " 1;", 4, length + 102);
            for (String other : kinds) {
                if (!other.equals(kind)) {
                    right(kind + " 1;" + other + " 1;");
                    wrong(kind + " 1;" + other + " 1;" + kind, 4, length + other.length() + 6);
                }
            }
        }
        right(ROPE + ROPE + "keep 1;" + ROPE);
    }

    private void thirteenth() {
        edges.sentence(Edges.TERMS, "5 the 13th CLAUSE (at its first TOKEN).");
        right(TWELVE);
        right(TWELVE + " \n");
        wrong(TWELVE + ROPE, 5, 108);
        wrong(TWELVE + " \nkeep 1;", 5, 110);
        wrong(TWELVE + "left", 5, 108);
        wrong(TWELVE + "right 10000;", 5, 108);
        wrong(TWELVE + "word @", 5, 108);
        wrong("keep 1;left 1;right 1;word 1;" + ROPE.repeat(9), 5, 101);
    }

    private void least() {
        edges.sentence(Edges.TERMS, "of one the least");
        wrong("10000", 1, 0);
        wrong("keep 1 10000;", 1, 7);
        wrong("keep 10000 10000;", 2, 5);
        wrong("keep " + "(".repeat(8) + "1(", 1, 14);
        wrong("keep " + "(".repeat(8) + "not", 1, 13);
        wrong("keep " + "(".repeat(8) + "1 if", 1, 15);
        wrong("keep 1;" + ROPE.repeat(11) + "keep 1;", 4, 106);
        wrong(TWELVE + "me", 1, 108);
        wrong(TWELVE + "keeps", 1, 108);
        wrong(TWELVE + "10000", 1, 108);
        wrong("keep 1 keep 1;", 1, 7);
        wrong("keep keep", 1, 5);
    }

    private void first() {
        edges.sentence(Edges.TERMS, "FAULTS, the first as TOKENS are come to, at the TOKEN's first byte");
        wrong("keep 10000 @", 2, 5);
        wrong("keep @ 10000", 1, 5);
        wrong("keep 1;keep 10000;", 4, 7);
        wrong("keep 10000;keep 1;", 2, 5);
        wrong("keep (((((((((10000", 3, 13);
        wrong("keep ((((((((10000(", 2, 13);
        wrong("rope 1 <= <= 2;", 1, 10);
        wrong("keep   gotlefts;", 1, 7);
        wrong("\n\nkeep\n\n)", 1, 8);
    }
}
