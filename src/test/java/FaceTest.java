import java.lang.reflect.Field;
import java.lang.reflect.Method;
import java.lang.reflect.Modifier;
import java.nio.file.Files;
import java.nio.file.Path;
import java.util.Arrays;
import java.util.Set;
import java.util.TreeSet;
import java.util.regex.Matcher;
import java.util.regex.Pattern;

/** The public face is the document's and no more, and the source keeps to the rules that can be seen in it. */
public final class FaceTest {
    private static final String[] METHODS = {
        "int vault(int,int,int,int)", "int ofTaker(int,int)", "int depth(int)", "int gloom(int)", "int hush(int,int)",
        "int think(int,int)", "int brace(int,int)", "int drain(int,int)", "int holds(int,int)", "int best(int,int)",
        "int together(int,int,int)", "int friend(int,int)", "int night(int,int,int,int,int)", "int gets(int,int)",
        "int send(int,int)", "int reading(int,int,int)", "int back(int)", "int minds(int)", "int kinds(int)",
        "int glooms(int)", "long odds(int,int,int)", "int sheet(int,int,int)", "int lose(int)", "int put(int,int,int)",
        "long cell(int,int,int)", "int copy(int,int,int,int,int)", "int tell(int)", "int ring(int)", "int as(int,int)",
        "int trace()", "int fault()", "int many(int)",
    };
    private static final String[] NEVER = {
        "throw", "throws", "try", "catch", "finally", "synchronized", "assert", "import", "package", "native", "Object",
        "toString", "hashCode", "protected", "volatile", "transient", "var", "yield",
    };

    public static void main(String[] args) throws Exception {
        constants();
        methods();
        members();
        source();
        methodsAreShort();
        Check.end("FaceTest");
    }

    private static void constants() {
        Check.due("UNKNOWN", FourVault.UNKNOWN, -1);
        Check.due("OUTSIDE", FourVault.OUTSIDE, -2);
        Check.due("STATE", FourVault.STATE, -3);
        Check.due("FULL", FourVault.FULL, -4);
        Check.due("NONE", FourVault.NONE, -9);
        Check.due("LOST", FourVault.LOST, Long.MIN_VALUE);
    }

    private static void holdsTrue(String what, boolean is) {
        Check.due(what, is ? 1 : 0, 1);
    }

    private static void methods() {
        Set<String> due = new TreeSet<>(Arrays.asList(METHODS));
        Set<String> seen = new TreeSet<>();
        Set<String> names = new TreeSet<>();
        for (Method method : FourVault.class.getDeclaredMethods()) {
            if (!Modifier.isPrivate(method.getModifiers())) {
                String parameters = Arrays.toString(method.getParameterTypes()).replaceAll("[\\[\\] ]", "");
                seen.add(method.getReturnType() + " " + method.getName() + "(" + parameters + ")");
                names.add(method.getName());
                holdsTrue(method + " is public", Modifier.isPublic(method.getModifiers()));
                holdsTrue(method + " is no static one", !Modifier.isStatic(method.getModifiers()));
            }
        }
        holdsTrue("methods are " + due + ", seen " + seen, due.equals(seen));
        for (Method method : FourVault.class.getDeclaredMethods()) {
            holdsTrue(method + " bears a public one's name",
                !Modifier.isPrivate(method.getModifiers()) || !names.contains(method.getName()));
        }
    }

    private static void members() {
        holdsTrue("public and final", FourVault.class.getModifiers() == (Modifier.PUBLIC | Modifier.FINAL));
        Check.due("constructors", FourVault.class.getDeclaredConstructors().length, 1);
        Set<String> open = new TreeSet<>();
        for (Field field : FourVault.class.getDeclaredFields()) {
            if (!Modifier.isPrivate(field.getModifiers())) {
                open.add(field.getName());
            }
        }
        holdsTrue("open fields are " + open,
            open.equals(new TreeSet<>(Arrays.asList("UNKNOWN", "OUTSIDE", "STATE", "FULL", "NONE", "LOST"))));
        Class<?>[] inside = FourVault.class.getDeclaredClasses();
        holdsTrue("some twelve classes", inside.length < 12);
        for (Class<?> one : inside) {
            holdsTrue(one + " is static", Modifier.isStatic(one.getModifiers()));
            holdsTrue(one + " is not public", !Modifier.isPublic(one.getModifiers()));
            for (Field field : one.getDeclaredFields()) {
                int is = field.getModifiers();
                holdsTrue(field + " is final if static", !Modifier.isStatic(is) || Modifier.isFinal(is));
            }
        }
    }

    /** The source without comments. */
    private static String code() throws Exception {
        String source = Files.readString(Path.of("src/main/java/FourVault.java"));
        return source.replaceAll("(?s)/\\*.*?\\*/", "").replaceAll("//[^\n]*", "");
    }

    private static void source() throws Exception {
        String code = code();
        for (String word : NEVER) {
            holdsTrue("the word " + word, !Pattern.compile("\\b" + word + "\\b").matcher(code).find());
        }
        String[] signs = {"->", "::", "\"", "@", "Exact", "while (true)", "for (;;"};
        for (String sign : signs) {
            holdsTrue("the sign " + sign, !code.contains(sign));
        }
        Matcher library = Pattern.compile("\\b(System|Math|Integer|Long|Arrays)\\.(\\w+)").matcher(code);
        Set<String> allowed = Set.of("System.arraycopy", "Math.max", "Math.min", "Long.MIN_VALUE");
        while (library.find()) {
            holdsTrue("library: " + library.group(), allowed.contains(library.group()));
        }
    }

    private static void methodsAreShort() throws Exception {
        String indent = null;
        int length = 0;
        for (String line : code().split("\n")) {
            length++;
            if (line.matches(" +\\w[^=;]*\\) \\{") && indent == null) {
                indent = line.substring(0, line.length() - line.stripLeading().length());
                length = 1;
            }
            if (indent != null && line.equals(indent + "}")) {
                holdsTrue("a method of " + length + " lines", length <= 60);
                indent = null;
            }
        }
    }
}
