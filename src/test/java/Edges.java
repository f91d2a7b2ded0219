import java.io.IOException;
import java.nio.file.Files;
import java.nio.file.Path;
import java.util.ArrayList;
import java.util.Arrays;
import java.util.HashMap;
import java.util.LinkedHashMap;
import java.util.List;
import java.util.Map;
import java.util.regex.Matcher;
import java.util.regex.Pattern;

/**
 * What the edge tests share: the sentence of the document at hand, which must stand there, and
 * twins, by which is seen that a call changes nothing.
 */
final class Edges {

    static final int LOW = Integer.MIN_VALUE;
    static final int HIGH = Integer.MAX_VALUE;
    static final String TERMS = "Terms";

    private static final Path DOCUMENT = Path.of("../shared/DOC.md");
    private static final int PROMISES = 27;

    /** Makes the same council each time. */
    interface Maker {
        RingCouncil make();
    }

    /** One call, its answer as a number. */
    interface Call {
        long on(RingCouncil council);
    }

    private final Checks checks = new Checks();
    private final Map<String, String> sections = new HashMap<>();
    private final Map<String, Integer> checksOf = new LinkedHashMap<>();
    private String at = "";

    Edges() throws IOException {
        for (String section : Files.readString(DOCUMENT).split("\n## ")) {
            Matcher promise = Pattern.compile("^Promise (\\d+): .*?\n\n`.*?`: ", Pattern.DOTALL).matcher(section);
            if (promise.find()) {
                sections.put(promise.group(1), plain(section.substring(promise.end())));
            } else if (section.startsWith(TERMS)) {
                sections.put(TERMS, plain(section));
            }
        }
    }

    private static String plain(String text) {
        return text.replaceAll("\\s+", " ").trim();
    }

    /** What is due from here on is due by these words of a promise, or of the terms. */
    void sentence(String section, String words) {
        at = section + ", \"" + words + "\"";
        checksOf.putIfAbsent(at, 0);
        boolean stands = sections.getOrDefault(section, "").contains(words);
        checks.due(at + " stands in the document", stands, true);
    }

    void due(String what, long got, long want) {
        checksOf.merge(at, 1, Integer::sum);
        checks.due(at + ": " + what, got, want);
    }

    void due(String what, boolean got, boolean want) {
        due(what, got ? 1 : 0, want ? 1 : 0);
    }

    /** The answers of of(room, 0), of(room, 1) and so on. */
    void room(String what, RingCouncil council, int room, int... wants) {
        for (int i = 0; i < wants.length; i++) {
            due(what + ", of(" + room + ", " + i + ")", council.of(room, i), wants[i]);
        }
    }

    /** The answers of about(0), about(1) and so on. */
    void abouts(String what, RingCouncil council, int... wants) {
        for (int i = 0; i < wants.length; i++) {
            due(what + ", about(" + i + ")", council.about(i), wants[i]);
        }
    }

    /** The call is answered so, and all is as with a twin to whom it wasn't put. */
    void changesNothing(String what, Maker maker, Call call, long want) {
        RingCouncil one = maker.make();
        due(what, call.on(one), want);
        same(what + " changes nothing", one, maker.make());
    }

    void changesNothing(String what, Call call, long want) {
        changesNothing(what, Edges::busy, call, want);
    }

    /** Both answer all that can be asked in the same way; neither is of use behind it. */
    void same(String what, RingCouncil one, RingCouncil other) {
        int[] first = Probe.answers(one);
        int[] second = Probe.answers(other);
        due(what + ", the first answer that is unlike", Arrays.mismatch(first, second), -1);
    }

    /** Each sentence of each promise was quoted, and something was due by it. */
    void close() {
        for (int promise = 1; promise <= PROMISES; promise++) {
            String section = sections.getOrDefault(String.valueOf(promise), "");
            checks.due("promise " + promise + " stands in the document", section.isEmpty(), false);
            for (String sentence : section.split("(?<=[^. ]\\.) ")) {
                String quoted = promise + ", \"" + sentence + "\"";
                checks.due(quoted + " has a test", checksOf.containsKey(quoted), true);
            }
        }
        List<String> idle = new ArrayList<>();
        checksOf.forEach((sentence, count) -> {
            if (count == 0) {
                idle.add(sentence);
            }
        });
        checks.due("sentences by which nothing was due: " + idle, idle.size(), 0);
        checks.close();
    }

    /** A council in the midst of everything, with a fault, a tape, an image and something told. */
    static RingCouncil busy() {
        RingCouncil council = Checks.council("left kept-1; right gotleft+2; keep if hour<2?kept+gotright+2:kept end;"
            + "rope gotleft>kept; word kept+bell;", 1, 2, 3, 2, 1);
        Checks.text(council, "left first; right 0; keep gotleft+gotright;");
        council.elder(1, 1, 2);
        council.lies(1, 1, 99, true);
        council.lies(2, 50, -1, true);
        council.elder(4, 2, 8);
        council.stuck(3, true);
        council.bar(7, true);
        council.bar(98, true);
        council.hours(2);
        council.image();
        council.bar(0, true);
        council.by(1);
        council.hours(1);
        council.told(2, 99, -1);
        council.told(2, 99, 2);
        Checks.text(council, "keep 1; keep 2;");
        Checks.tape(council, "word 4;");
        return council;
    }
}
