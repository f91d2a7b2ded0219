import java.io.IOException;
import java.lang.reflect.Constructor;
import java.lang.reflect.Executable;
import java.lang.reflect.Field;
import java.lang.reflect.Member;
import java.lang.reflect.Method;
import java.lang.reflect.Modifier;
import java.nio.file.Files;
import java.nio.file.Path;
import java.util.ArrayList;
import java.util.Arrays;
import java.util.HashSet;
import java.util.List;
import java.util.Set;
import java.util.TreeSet;
import java.util.regex.Matcher;
import java.util.regex.Pattern;

/** The rules of LANGUAGE.md that can be seen from outside: the face, and words that may not stand. */
public final class LanguageTest {

    private static final Path SOURCE = Path.of("src/main/java/RingCouncil.java");
    private static final String[] FACE = {"elder(int,int,int)boolean", "stuck(int,boolean)boolean",
        "lies(int,int,int,boolean)boolean", "bar(int,boolean)boolean", "feed(int,int,int,int,int)int", "end(int)int",
        "text()int", "fault(int)int", "by(int)boolean", "start()int", "hours(int)int", "undo()int", "of(int,int)int",
        "agree()boolean", "agrees(int)int", "holds(int,int)int", "states(int,int)int", "bad(int,int,int,int,int)int",
        "told(int,int,int)int", "forget()int", "suspects(int)int", "slips(int,int,int,int)int", "learns(int,int,int)int",
        "image()int", "back()int", "about(int)int"};
    private static final String[] FORBIDDEN = {"\\bthrows?\\b", "\\btry\\b", "\\bcatch\\b", "\\bsynchronized\\b",
        "\\bassert\\b", "->", "::", "Exact\\b", "\\bimport\\b", "\\bpackage\\b", "\\bnative\\b", "\\bvolatile\\b",
        "static\\s*\\{", "\\bhashCode\\b", "\\btoString\\b", "\"\\s*\\+", "\\+\\s*\"", "\\bSystem\\.(?!arraycopy)",
        "\\bprotected\\b", "\\bdouble\\b", "\\bfloat\\b", "while \\(true\\)", "for \\(;;"};

    private static final Set<String> LIBRARY = Set.of("Object.<init>", "String.length", "String.charAt",
        "System.arraycopy");
    private static final int MOST_DEEP = 8;
    // Eight that are open around one another and what stands in the innermost, with what leads there.
    private static final int MOST_LEVELS = 9;
    private static final int MOST_OPEN_CALLS = 300;

    private final Checks checks = new Checks();

    public static void main(String[] args) throws IOException {
        LanguageTest test = new LanguageTest();
        test.face();
        test.classesInside();
        test.words(Files.readString(SOURCE));
        test.calls(CallGraph.of(SOURCE));
        test.checks.close();
    }

    private void face() {
        Class<?> type = RingCouncil.class;
        checks.due("1, public and final", type.getModifiers(), Modifier.PUBLIC | Modifier.FINAL);
        Set<String> open = new TreeSet<>();
        List<Member> members = new ArrayList<>(Arrays.asList(type.getDeclaredMethods()));
        members.addAll(Arrays.asList(type.getDeclaredFields()));
        members.addAll(Arrays.asList(type.getDeclaredConstructors()));
        for (Member member : members) {
            if (!Modifier.isPrivate(member.getModifiers())) {
                checks.due("1, public: " + member.getName(), Modifier.isPublic(member.getModifiers()), true);
                open.add(signature(member));
            }
        }
        Set<String> due = new TreeSet<>(Arrays.asList(FACE));
        due.addAll(Arrays.asList("NONE int", "SPENT int", "RingCouncil(int)"));
        checks.due("1, the face is " + open, open.equals(due), true);
        checks.due("NONE", RingCouncil.NONE, -1);
        checks.due("SPENT", RingCouncil.SPENT, -2);
    }

    private static String signature(Member member) {
        if (member instanceof Field field) {
            return field.getName() + " " + field.getType().getName();
        }
        StringBuilder text = new StringBuilder(member.getName()).append('(');
        for (Class<?> type : ((Executable) member).getParameterTypes()) {
            text.append(text.charAt(text.length() - 1) == '(' ? "" : ",").append(type.getName());
        }
        text.append(')');
        return member instanceof Method method ? text.append(method.getReturnType().getName()).toString() : text.toString();
    }

    private void classesInside() {
        Set<String> names = new HashSet<>();
        for (String one : FACE) {
            names.add(one.substring(0, one.indexOf('(')));
        }
        Class<?>[] inside = RingCouncil.class.getDeclaredClasses();
        checks.due("11, some twelve classes", inside.length + 1 <= 12, true);
        for (Class<?> type : inside) {
            checks.due("2, static: " + type, Modifier.isStatic(type.getModifiers()), true);
            checks.due("1, not public: " + type, Modifier.isPublic(type.getModifiers()), false);
            int fields = 0;
            for (Field field : type.getDeclaredFields()) {
                boolean isStatic = Modifier.isStatic(field.getModifiers());
                fields += isStatic ? 0 : 1;
                checks.due("5, final: " + field, !isStatic || Modifier.isFinal(field.getModifiers()), true);
            }
            checks.due("11, some twenty fields: " + type, fields <= 20, true);
            for (Method method : type.getDeclaredMethods()) {
                checks.due("1, a name of the face: " + method, names.contains(method.getName()), false);
                checks.due("11, parameters: " + method, method.getParameterCount() <= 7, true);
            }
            for (Constructor<?> made : type.getDeclaredConstructors()) {
                checks.due("11, parameters: " + made, made.getParameterCount() <= 7, true);
            }
        }
    }

    private void words(String source) {
        String bare = source.replaceAll("(?s)/\\*.*?\\*/", "").replaceAll("//[^\n]*", "");
        for (String word : FORBIDDEN) {
            Matcher found = Pattern.compile(word).matcher(bare);
            checks.due("may not stand: " + word, found.find(), false);
        }
        for (int i = 0; i < source.length(); i++) {
            if (source.charAt(i) > 126) {
                checks.due("a sign beyond 126 at " + i, 1, 0);
            }
        }
        int lines = 0;
        for (String line : bare.split("\n")) {
            boolean head = line.matches(" {4,8}(public|private|static|void|int|boolean|[A-Z]\\w+\\().*\\{");
            lines = head ? 0 : lines + 1;
            if (line.matches(" {4,8}\\}")) {
                checks.due("11, a method of " + lines + " lines", lines <= 60 || !line.startsWith("        "), true);
            }
        }
    }

    private void calls(CallGraph graph) {
        int inCycle = 0;
        for (String method : graph.methods()) {
            checks.due("11, calls that stand open from " + method, graph.depth(method) <= MOST_DEEP, true);
            inCycle = Math.max(inCycle, graph.cycle(method).size());
        }
        checks.due("8, calls that stand open at once", inCycle * MOST_LEVELS + MOST_DEEP < MOST_OPEN_CALLS, true);
        for (String used : graph.library()) {
            checks.due("4, the library: " + used, LIBRARY.contains(used), true);
        }
        for (String maker : graph.makers()) {
            checks.due("12, made in a constructor: " + maker, maker.endsWith(".<init>"), true);
        }
        checks.due("the calls were seen", graph.depth("RingCouncil.suspects") > 1, true);
        checks.due("the library was seen", graph.library().size(), LIBRARY.size());
        checks.due("the makers were seen", graph.makers().contains("RingCouncil.<init>"), true);
    }
}
