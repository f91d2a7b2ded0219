/** What the tests share: counting wrong answers, and feeding a text to a council. */
final class Checks {

    private int right;
    private int wrong;

    void due(String what, long got, long want) {
        if (got == want) {
            right++;
        } else {
            wrong++;
            System.out.println(what + " answered " + got + ", due is " + want);
        }
    }

    void due(String what, boolean got, boolean want) {
        due(what, got ? 1 : 0, want ? 1 : 0);
    }

    void close() {
        System.out.println(right + " answers as due, " + wrong + " not");
        if (wrong > 0 || right == 0) {
            System.exit(1);
        }
    }

    /** Puts a text on the tape, which holds nothing else then; answers its length. */
    static int tape(RingCouncil council, String text) {
        council.end(0);
        for (int at = 0; at < text.length(); at += 20) {
            council.feed(four(text, at), four(text, at + 4), four(text, at + 8), four(text, at + 12),
                four(text, at + 16));
        }
        return council.end(text.length());
    }

    static int text(RingCouncil council, String text) {
        tape(council, text);
        return council.text();
    }

    static int four(String text, int at) {
        int value = 0;
        for (int i = at; i < at + 4; i++) {
            value = value << 8 | (i < text.length() ? text.charAt(i) & 255 : 0);
        }
        return value;
    }

    /** A council that is ruled by a text, with these firsts, all sound, at the start. */
    static RingCouncil council(String text, int... firsts) {
        RingCouncil council = new RingCouncil(firsts.length);
        for (int room = 0; room < firsts.length; room++) {
            council.elder(room, 0, firsts[room]);
        }
        if (!text.isEmpty()) {
            council.by(text(council, text));
        }
        council.start();
        return council;
    }
}
