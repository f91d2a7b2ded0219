import java.util.Random;

/** Makes texts by the grammar, and spoils them now and then; the same seed, the same texts. */
final class TextMaker {

    private static final String[] NAMES = {"me", "kept", "gotleft", "gotright", "bell", "hour", "first", "rooms"};
    private static final String[] COMPARISONS = {"<", "<=", ">", ">=", "=", "#"};
    private static final String[] ODD = {"keep", "left", "rope", "word", "if", "end", "or", "and", "not", "(", ")", ";",
        "?", ":", "-", "<", "<=", "=", "#", "/", "10000", "9999", "kept", "Keep", "@", "x", "00001", "\t"};

    // Councils that get somewhere: made ones seldom do.
    private static final String[] KNOWN = {
        "right kept; keep if gotleft>kept? gotleft: kept end;",
        "left kept; right kept; keep (kept+gotleft+gotright+2)/3; rope kept>1;",
        "rope first>0; keep if bell>rooms/2 ?1:0 end; left bell; right kept;",
        "left kept; right gotleft; keep gotright*2+gotleft; rope gotleft=gotright; word kept/3;",
        "right if hour=0? first : gotleft end; keep kept+gotleft; word kept/rooms;",
        "left 99-kept; right kept*50; keep if gotleft#gotright and not bell=0? me: kept+1 end; rope me>hour; rope kept=2;",
        "word if gotleft=1 or gotright=1?1: bell end; left first; right first+me;"};

    private final Random random;

    TextMaker(Random random) {
        this.random = random;
    }

    String text() {
        if (random.nextInt(3) == 0) {
            return KNOWN[random.nextInt(KNOWN.length)];
        }
        StringBuilder text = new StringBuilder();
        String[] kinds = {"keep", "left", "right", "word"};
        int bounds = random.nextInt(4);
        for (String kind : kinds) {
            if (random.nextInt(4) > 0) {
                text.append(kind).append(' ').append(note(2, bounds)).append(blank(";"));
            }
        }
        int ropes = random.nextInt(3);
        for (int i = 0; i < ropes; i++) {
            text.append("rope ").append(either(1)).append(';');
        }
        return text.length() > 300 ? text() : text.toString();
    }

    /** Deep or long ones, for the limits of nesting and of clauses. */
    String limits() {
        StringBuilder text = new StringBuilder();
        if (random.nextBoolean()) {
            int count = 9 + random.nextInt(6);
            for (int i = 0; i < count; i++) {
                boolean keep = random.nextInt(12) == 0;
                text.append(keep ? "keep 1;" : "rope me<" + i + ";");
            }
            return text.toString();
        }
        int depth = 6 + random.nextInt(5);
        text.append("rope ");
        String close = "";
        boolean asks = true;
        for (int i = 0; i < depth; i++) {
            int way = random.nextInt(asks ? 4 : 3);
            if (way == 3) {
                text.append("not ");
            } else if (way == 2) {
                text.append("if ");
                close = (asks ? "<1" : "") + "?1:2 end" + close;
            } else {
                text.append(way == 0 ? "-" : "(");
                close = (way == 0 ? "" : ")") + close;
            }
            asks = way >= 2 && (asks || way == 2);
        }
        return text.append("1").append(close).append("<2;").toString();
    }

    String spoiled(String text) {
        StringBuilder spoiled = new StringBuilder(text);
        int at = random.nextInt(text.length() + 1);
        switch (random.nextInt(4)) {
            case 0:
                spoiled.setLength(at);
                break;
            case 1:
                spoiled.insert(at, " " + ODD[random.nextInt(ODD.length)] + " ");
                break;
            case 2:
                spoiled.insert(at, (char) random.nextInt(256));
                break;
            default:
                spoiled.delete(at, Math.min(text.length(), at + 1 + random.nextInt(4)));
                break;
        }
        return spoiled.length() > 300 ? text : spoiled.toString();
    }

    private String note(int depth, int bounds) {
        String sum = sum(depth);
        return bounds == 0 ? sum : "(" + sum + ")/" + (1 + random.nextInt(4));
    }

    private String sum(int depth) {
        int count = 1 + random.nextInt(2) * random.nextInt(2);
        StringBuilder sum = new StringBuilder(product(depth));
        for (int i = 0; i < count - 1; i++) {
            sum.append(blank(random.nextInt(3) > 0 ? "+" : "-")).append(product(depth));
        }
        return sum.toString();
    }

    private String product(int depth) {
        StringBuilder product = new StringBuilder(one(depth));
        while (random.nextInt(6) == 0) {
            product.append(blank(random.nextBoolean() ? "*" : "/")).append(one(depth));
        }
        return product.toString();
    }

    private String one(int depth) {
        int way = random.nextInt(depth > 0 ? 12 : 8);
        if (way < 3) {
            return String.valueOf(random.nextInt(20) == 0 ? random.nextInt(10000) : random.nextInt(4));
        }
        if (way < 8) {
            return NAMES[random.nextInt(NAMES.length)];
        }
        if (way == 8) {
            return "(" + sum(depth - 1) + ")";
        }
        if (way == 9) {
            return "-" + one(depth - 1);
        }
        return "if " + either(depth - 1) + "?" + sum(depth - 1) + blank(":") + sum(depth - 1) + " end";
    }

    private String either(int depth) {
        String either = both(depth);
        return random.nextInt(4) == 0 ? either + " or " + both(depth) : either;
    }

    private String both(int depth) {
        String both = ask(depth);
        return random.nextInt(4) == 0 ? both + " and " + ask(depth) : both;
    }

    private String ask(int depth) {
        if (random.nextInt(6) == 0) {
            return "not " + ask(depth);
        }
        return sum(depth) + blank(COMPARISONS[random.nextInt(COMPARISONS.length)]) + sum(depth);
    }

    private String blank(String sign) {
        int way = random.nextInt(4);
        return (way == 0 ? " " : "") + sign + (way == 1 ? "\n" : "");
    }
}
