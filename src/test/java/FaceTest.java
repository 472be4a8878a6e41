import java.io.IOException;
import java.lang.reflect.Constructor;
import java.lang.reflect.Field;
import java.lang.reflect.Method;
import java.lang.reflect.Modifier;
import java.nio.charset.StandardCharsets;
import java.nio.file.Files;
import java.nio.file.Path;
import java.util.ArrayList;
import java.util.List;
import java.util.TreeSet;
import java.util.regex.Matcher;
import java.util.regex.Pattern;

/** The public face, and those rules of LANGUAGE.md that can be seen from outside or in the text. */
public final class FaceTest {
    private static final Check c = new Check("FaceTest");
    private static final String[] FACE = {
        "long row(int,int,int)", "long set(int,int,int)", "long copy(int,int,int,int,int)",
        "long drop(int)", "long feed(long,int)", "long pass()", "int fault()", "long night(int)",
        "long nights(int,int,int)", "long snow(int)", "long due(int,int)", "long party(int,int)",
        "long safe(int,int,int,int)", "long stock(int,int,int)", "long send(int,int)",
        "long broke(int,int,int)", "long lies(int,int,int)", "long carry(int,int,int)",
        "long image(int)", "long restore(int)", "long kind(int)", "long as(int,int)",
        "long ask(int,int)", "int trace(int)", "long count(int)", "int status()"};

    private static final List<String> IMPORTS = List.of("java.util.Arrays", "java.util.ArrayList",
        "java.util.List", "java.util.Iterator");
    private static final List<String> LIBRARY = List.of("System.arraycopy", "Arrays.copyOf",
        "Arrays.copyOfRange", "Arrays.fill");

    public static void main(String[] args) throws IOException {
        face();
        nothingElse();
        String path = args.length > 0 ? args[0] : "src/main/java/WoodForTwo.java";
        String source = Files.readString(Path.of(path), StandardCharsets.ISO_8859_1);
        text(source);
        methodsAreShort(withoutTexts(source));
        c.end();
    }

    private static void face() {
        c.due("NONE", WoodForTwo.NONE, -1000000);
        c.due("NOT", WoodForTwo.NOT, -9000000000000000000L);
        int type = WoodForTwo.class.getModifiers();
        yes("public and final", Modifier.isPublic(type) && Modifier.isFinal(type));
        TreeSet<String> due = new TreeSet<>(List.of(FACE));
        TreeSet<String> got = new TreeSet<>();
        for (Method m : WoodForTwo.class.getDeclaredMethods()) {
            if (Modifier.isPublic(m.getModifiers())) {
                got.add(signature(m));
            }
        }
        yes("public methods: " + got, due.equals(got));
        Constructor<?>[] makers = WoodForTwo.class.getDeclaredConstructors();
        yes("one constructor, public, of nothing", makers.length == 1
            && Modifier.isPublic(makers[0].getModifiers()) && makers[0].getParameterCount() == 0);
    }

    private static String signature(Method m) {
        List<String> types = new ArrayList<>();
        for (Class<?> type : m.getParameterTypes()) {
            types.add(type.getName());
        }
        return m.getReturnType().getName() + " " + m.getName() + "(" + String.join(",", types) + ")";
    }

    private static void nothingElse() {
        TreeSet<String> names = new TreeSet<>();
        for (String call : FACE) {
            names.add(call.substring(call.indexOf(' ') + 1, call.indexOf('(')));
        }
        for (Method m : WoodForTwo.class.getDeclaredMethods()) {
            if (!Modifier.isPublic(m.getModifiers())) {
                yes(m + " is private", Modifier.isPrivate(m.getModifiers()));
                yes(m + " bears no public name", !names.contains(m.getName()));
            }
        }
        for (Field f : WoodForTwo.class.getDeclaredFields()) {
            boolean told = f.getName().equals("NONE") || f.getName().equals("NOT");
            yes(f + " is private, or told", told || Modifier.isPrivate(f.getModifiers()));
            staticMeansFinal(f);
        }
        Class<?>[] inside = WoodForTwo.class.getDeclaredClasses();
        yes("some twelve classes at most", inside.length <= 12);
        for (Class<?> type : inside) {
            int is = type.getModifiers();
            yes(type + " is static and not to be seen", Modifier.isStatic(is)
                && !Modifier.isPublic(is) && !Modifier.isProtected(is));
            int fields = 0;
            for (Field f : type.getDeclaredFields()) {
                staticMeansFinal(f);
                fields += Modifier.isStatic(f.getModifiers()) ? 0 : 1;
            }
            yes(type + " has some twenty fields at most", fields <= 20);
            for (Method m : type.getDeclaredMethods()) {
                yes(m + " takes at most seven", m.getParameterCount() <= 7);
                yes(m + " bears no public name", !names.contains(m.getName()));
            }
        }
    }

    private static void staticMeansFinal(Field f) {
        int is = f.getModifiers();
        yes(f + " is final if static", !Modifier.isStatic(is) || Modifier.isFinal(is));
    }

    private static void text(String source) {
        for (int i = 0; i < source.length(); i++) {
            if (source.charAt(i) < 1 || source.charAt(i) > 127) {
                yes("sign at " + i + " is 1 to 127", false);
            }
        }
        String code = withoutTexts(source);
        String[] words = {"throw", "throws", "try", "catch", "synchronized", "assert", "volatile",
            "native", "package", "protected", "equals", "hashCode", "toString", "Object", "System.out",
            "Thread", "Random", "Exception", "yield", "var", "record", "sealed"};
        for (String word : words) {
            yes("no '" + word + "'", !Pattern.compile("\\b" + Pattern.quote(word) + "\\b")
                .matcher(code).find());
        }
        for (String sign : new String[] {"->", "::", "...", "\"\"\""}) {
            yes("no '" + sign + "'", !code.contains(sign));
        }
        yes("no static block", !Pattern.compile("\\bstatic\\s*\\{").matcher(code).find());
        Matcher imports = Pattern.compile("import ([^;]*);").matcher(code);
        while (imports.find()) {
            yes("import " + imports.group(1), IMPORTS.contains(imports.group(1)));
        }
        yes("no function ends in Exact", !Pattern.compile("\\w+Exact\\b").matcher(code).find());
        Matcher arrays = Pattern.compile("\\b(Arrays|System)\\.(\\w+)").matcher(code);
        while (arrays.find()) {
            String call = arrays.group(1) + "." + arrays.group(2);
            yes(call, LIBRARY.contains(call));
        }
    }

    /** The text without comments, and with nothing in its strings. */
    private static String withoutTexts(String source) {
        return source.replaceAll("(?s)/\\*.*?\\*/", "").replaceAll("//[^\n]*", "")
            .replaceAll("\"[^\"\n]*\"", "\"\"").replaceAll("'[^'\n]'", "' '");
    }

    private static void methodsAreShort(String code) {
        String[] lines = code.split("\n", -1);
        int begin = -1;
        String indent = "";
        for (int i = 0; i < lines.length; i++) {
            Matcher head = Pattern.compile("^( {4}| {8})[^ ].*\\(.*\\{$").matcher(lines[i]);
            if (begin < 0 && head.matches() && !lines[i].contains(" class ")) {
                begin = i;
                indent = head.group(1);
            } else if (begin >= 0 && lines[i].equals(indent + "}")) {
                yes("lines " + begin + " to " + i + " are some sixty at most", i - begin <= 60);
                begin = -1;
            }
        }
        yes("every method has an end", begin < 0);
    }

    private static void yes(String what, boolean is) {
        c.due(what, is ? 1 : 0, 1);
    }
}
