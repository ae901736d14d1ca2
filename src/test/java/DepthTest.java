import java.nio.file.Files;
import java.nio.file.Path;
import java.util.ArrayList;
import java.util.LinkedHashMap;
import java.util.List;
import java.util.Map;
import java.util.regex.Matcher;
import java.util.regex.Pattern;

/**
 * LANGUAGE.md, rules 8 and 11: which bodies of the source call which, and how many can stand open at once.
 * A call by name counts as one of every body of that name, so the depth that is found is never too small.
 */
public final class DepthTest {
    private static final int MOST = 8;
    private static final Pattern CLASS = Pattern.compile("\\bclass (\\w+)(?: extends (\\w+))?[^{]*\\{");
    private static final Pattern BODY = Pattern.compile("\\n +(?:\\w+ )*?(?:[\\w\\[\\]]+ )?(\\w+)\\([^()]*\\) \\{");
    private static final Pattern CALL = Pattern.compile("(super\\.|new )?\\b(\\w+)\\(");

    /** "Class.name", or "Class.Class" of a constructor, and the text between its braces. */
    private static final Map<String, String> BODIES = new LinkedHashMap<>();
    private static final Map<String, String> ABOVE = new LinkedHashMap<>();

    public static void main(String[] args) throws Exception {
        readClass(code());
        Check.due("classes", ABOVE.size() > 5 ? 1 : 0, 1);
        Check.due("public calls and bodies of their own", BODIES.size() > 32 ? 1 : 0, 1);
        for (String body : BODIES.keySet()) {
            if (body.startsWith("FourVault.")) {
                List<String> deepest = deepest(body, new ArrayList<>());
                Check.due(deepest + " is " + MOST + " deep at most", deepest.size() <= MOST ? 1 : 0, 1);
            }
        }
        Check.end("DepthTest");
    }

    private static String code() throws Exception {
        String source = Files.readString(Path.of("src/main/java/FourVault.java"));
        return source.replaceAll("(?s)/\\*.*?\\*/", "").replaceAll("//[^\n]*", "").replaceAll("'.'", "0");
    }

    private static int endOf(String code, int from) {
        int open = 1;
        int at = from;
        while (open > 0) {
            char sign = code.charAt(at++);
            open += sign == '{' ? 1 : sign == '}' ? -1 : 0;
        }
        return at - 1;
    }

    /** The first class of the code, and those inside it. */
    private static void readClass(String code) {
        Matcher head = CLASS.matcher(code);
        if (!head.find()) {
            throw new AssertionError("no class in " + code);
        }
        String name = head.group(1);
        ABOVE.put(name, head.group(2) == null ? "Object" : head.group(2));
        String rest = "\n" + code.substring(head.end(), endOf(code, head.end()));
        for (Matcher inside = CLASS.matcher(rest); inside.find(); inside = CLASS.matcher(rest)) {
            int end = endOf(rest, inside.end()) + 1;
            readClass(rest.substring(inside.start(), end));
            rest = rest.substring(0, inside.start()) + rest.substring(end);
        }
        readBodies(name, rest);
    }

    private static void readBodies(String name, String rest) {
        String fields = rest;
        for (Matcher head = BODY.matcher(fields); head.find(); head = BODY.matcher(fields)) {
            int end = endOf(fields, head.end());
            BODIES.put(name + "." + head.group(1), fields.substring(head.end(), end));
            fields = fields.substring(0, head.start()) + fields.substring(end + 1);
        }
        String constructor = name + "." + name;
        BODIES.put(constructor, fields + BODIES.getOrDefault(constructor, ""));
    }

    /** The longest chain of bodies that this one begins; one that comes to itself again is too deep in any case. */
    private static List<String> deepest(String body, List<String> open) {
        List<String> longest = new ArrayList<>();
        if (open.contains(body) || open.size() > 2 * MOST) {
            return new ArrayList<>(java.util.Collections.nCopies(MOST + 1, body));
        }
        open.add(body);
        for (String called : calledBy(body)) {
            List<String> chain = deepest(called, open);
            longest = chain.size() > longest.size() ? chain : longest;
        }
        open.remove(body);
        longest.add(0, body);
        return longest;
    }

    private static List<String> calledBy(String body) {
        String of = body.substring(0, body.indexOf('.'));
        List<String> called = new ArrayList<>();
        if (body.equals(of + "." + of) && ABOVE.containsKey(of)) {
            called.add(ABOVE.get(of) + "." + ABOVE.get(of));
        }
        Matcher call = CALL.matcher(BODIES.getOrDefault(body, ""));
        while (call.find()) {
            String name = call.group(2);
            boolean made = "new ".equals(call.group(1));
            boolean above = "super.".equals(call.group(1));
            if (above) {
                called.add(ABOVE.get(of) + "." + name);
            }
            for (String other : BODIES.keySet()) {
                boolean isConstructor = other.equals(name + "." + name);
                if (!above && other.endsWith("." + name) && made == isConstructor) {
                    called.add(other);
                }
            }
        }
        return called;
    }
}
