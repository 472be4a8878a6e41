import java.io.IOException;
import java.util.ArrayList;
import java.util.LinkedHashMap;
import java.util.List;
import java.util.Map;
import java.util.Set;

/** The rules of LANGUAGE.md that can be seen in the compiled class. */
public final class LibraryTest {
    private static final Check c = new Check("LibraryTest");
    private static final int INVOKE_DYNAMIC = 186;
    private static final int THROW = 191;
    private static final int MONITOR = 194;
    private static final int MOST_DEEP = 8;

    // Rule 4, as far as a class of numbers, arrays and words may want it.
    private static final Set<String> LIBRARY = Set.of("java/lang/Object.<init>",
        "java/lang/String.length", "java/lang/String.charAt", "java/lang/String.isEmpty",
        "java/lang/String.equals", "java/lang/String.indexOf", "java/lang/String.substring",
        "java/lang/String.toCharArray", "java/lang/String.<init>",
        "java/lang/Math.min", "java/lang/Math.max", "java/lang/Math.abs", "java/lang/Math.floorDiv",
        "java/lang/Math.floorMod", "java/lang/Integer.compare", "java/lang/Integer.bitCount",
        "java/lang/Long.compare", "java/lang/Long.bitCount", "java/lang/System.arraycopy",
        "java/util/Arrays.copyOf", "java/util/Arrays.copyOfRange", "java/util/Arrays.fill");

    private static final Map<String, ClassFile> classes = new LinkedHashMap<>();

    public static void main(String[] args) throws IOException {
        take(WoodForTwo.class);
        for (Class<?> inside : WoodForTwo.class.getDeclaredClasses()) {
            take(inside);
        }
        library();
        depth();
        c.end();
    }

    private static void take(Class<?> type) throws IOException {
        ClassFile file = ClassFile.of(type);
        classes.put(file.name, file);
        yes(file.name + " has no classes inside a class inside", type == WoodForTwo.class
            || type.getDeclaredClasses().length == 0);
    }

    private static void library() {
        for (ClassFile file : classes.values()) {
            for (Map.Entry<String, List<ClassFile.Call>> method : file.calls.entrySet()) {
                for (ClassFile.Call call : method.getValue()) {
                    String what = call.owner() + "." + call.name();
                    boolean own = classes.containsKey(call.owner());
                    boolean clone = call.owner().startsWith("[") && call.name().equals("clone");
                    yes(file.name + "." + method.getKey() + " calls " + what,
                        own || clone || LIBRARY.contains(what));
                }
            }
            yes(file.name + " catches nothing", file.handlers == 0);
            yes(file.name + " joins no texts by +, and has no lambda",
                !file.opcodes.contains(INVOKE_DYNAMIC));
            yes(file.name + " throws nothing", !file.opcodes.contains(THROW));
            yes(file.name + " locks nothing", !file.opcodes.contains(MONITOR));
        }
    }

    // ---- rules 8 and 11: no recursion, and calls at most eight deep.

    private static void depth() {
        int most = 0;
        for (String call : classes.get("WoodForTwo").calls.keySet()) {
            int deep = deepest("WoodForTwo", "WoodForTwo", call, new ArrayList<>());
            yes(call + " goes " + deep + " calls deep", deep <= MOST_DEEP);
            most = Math.max(most, deep);
        }
        yes("the calls have been followed: " + most, most > 2);
    }

    /** From a method of an object of class 'self', found from 'owner' on upwards. */
    private static int deepest(String self, String owner, String name, List<String> open) {
        String at = owner;
        while (classes.containsKey(at) && !classes.get(at).calls.containsKey(name)) {
            at = classes.get(at).above;
        }
        if (!classes.containsKey(at)) {
            // The library's own.
            return 1;
        }
        String here = self + " as " + at + "." + name;
        if (open.contains(here) || open.size() > 40) {
            yes(here + " calls itself", false);
            return 1;
        }
        open.add(here);
        int most = 0;
        for (ClassFile.Call call : classes.get(at).calls.get(name)) {
            for (String other : selves(self, call)) {
                String from = call.virtually() ? other : call.owner();
                most = Math.max(most, deepest(other, from, call.name(), open));
            }
        }
        open.remove(open.size() - 1);
        return most + 1;
    }

    /** Of which classes the object may be that is called: itself, if it is of that class. */
    private static List<String> selves(String self, ClassFile.Call call) {
        if (call.name().equals("<init>") || isBelow(self, call.owner())) {
            return List.of(isBelow(self, call.owner()) ? self : call.owner());
        }
        List<String> all = new ArrayList<>();
        for (String name : classes.keySet()) {
            if (isBelow(name, call.owner())) {
                all.add(name);
            }
        }
        return all.isEmpty() ? List.of(call.owner()) : all;
    }

    private static boolean isBelow(String name, String above) {
        for (String at = name; classes.containsKey(at); at = classes.get(at).above) {
            if (at.equals(above)) {
                return true;
            }
        }
        return false;
    }

    private static void yes(String what, boolean is) {
        c.due(what, is ? 1 : 0, 1);
    }
}
