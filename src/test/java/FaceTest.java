import java.io.IOException;
import java.lang.reflect.Field;
import java.lang.reflect.Method;
import java.lang.reflect.Modifier;
import java.nio.file.Files;
import java.nio.file.Path;
import java.util.Set;
import java.util.TreeSet;
import java.util.regex.Pattern;

/** The public face of the document, and the rules of LANGUAGE.md that can be seen from outside. */
public final class FaceTest {
    private static final Set<String> METHODS = Set.of("tool/2", "hang/2", "unhang/1", "kind/1", "card/2", "uncard/1",
        "rename/2", "of/2", "hone/2", "use/2", "shift/4", "tray/2", "lose/2", "put/3", "get/2", "length/2", "rack/3",
        "lay/3", "fetch/4", "grid/3", "strike/2", "mark/4", "cell/3", "alarm/2", "calm/1", "let/1", "why/0", "count/1");
    private static final Set<String> CONSTANTS = Set.of("NONE", "UNKNOWN", "OUTSIDE");
    private static final String[] RULED_OUT = {"throw", "throws", "try", "catch", "finally", "synchronized", "assert",
        "import", "package", "equals", "hashCode", "toString", "Exact", "->", "::"};
    private static final Due due = new Due("FaceTest");

    public static void main(String[] args) throws IOException {
        constants();
        methods();
        fields();
        classesInside();
        due.holds("the class is public and final",
            (ToolRoom.class.getModifiers() & (Modifier.PUBLIC | Modifier.FINAL)) == (Modifier.PUBLIC | Modifier.FINAL));
        due.is("constructors", ToolRoom.class.getDeclaredConstructors().length, 1);
        due.is("public constructors without arguments", ToolRoom.class.getConstructors()[0].getParameterCount(), 0);
        words();
        due.end();
    }

    private static void constants() {
        due.is("NONE", ToolRoom.NONE, -1);
        due.is("UNKNOWN", ToolRoom.UNKNOWN, -2);
        due.is("OUTSIDE", ToolRoom.OUTSIDE, -3);
    }

    private static void methods() {
        Set<String> open = new TreeSet<>();
        Set<String> closed = new TreeSet<>();
        for (Method method : ToolRoom.class.getDeclaredMethods()) {
            if (Modifier.isPrivate(method.getModifiers())) {
                closed.add(method.getName());
            } else {
                open.add(method.getName() + "/" + method.getParameterCount());
                due.holds(method + " is public and answers an int",
                    Modifier.isPublic(method.getModifiers()) && method.getReturnType() == int.class);
            }
        }
        due.holds("the methods are the document's: " + open, open.equals(METHODS));
        for (String name : METHODS) {
            due.holds("no private method is a namesake of " + name, !closed.contains(name.substring(0, name.indexOf('/'))));
        }
    }

    private static void fields() {
        for (Field field : ToolRoom.class.getDeclaredFields()) {
            boolean isOpen = !Modifier.isPrivate(field.getModifiers());
            due.holds(field + " is private, or a constant of the document", isOpen == CONSTANTS.contains(field.getName()));
            due.holds(field + " is final, if static",
                !Modifier.isStatic(field.getModifiers()) || Modifier.isFinal(field.getModifiers()));
        }
    }

    private static void classesInside() {
        Class<?>[] inside = ToolRoom.class.getDeclaredClasses();
        due.holds("some twelve classes at most", inside.length < 12);
        for (Class<?> one : inside) {
            due.holds(one + " is static and not public",
                Modifier.isStatic(one.getModifiers()) && !Modifier.isPublic(one.getModifiers()));
        }
    }

    private static void words() throws IOException {
        String source = Files.readString(Path.of("src/main/java/ToolRoom.java"));
        for (String word : RULED_OUT) {
            boolean isName = Character.isLetter(word.charAt(0));
            String pattern = isName ? "\\b\\w*" + Pattern.quote(word) + "\\b" : Pattern.quote(word);
            due.holds("no '" + word + "' in the source", !Pattern.compile(pattern).matcher(source).find());
        }
    }
}
