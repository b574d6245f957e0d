import java.lang.reflect.Constructor;
import java.lang.reflect.Field;
import java.lang.reflect.Method;
import java.lang.reflect.Modifier;
import java.nio.file.Files;
import java.nio.file.Path;
import java.util.ArrayList;
import java.util.List;
import java.util.regex.Matcher;
import java.util.regex.Pattern;

/** Holds the document's public face, line by line, against the compiled class and against its source. */
public final class FaceTest {
    private static final Path PROGRAM = Path.of("src/main/java/AnswerKeeper.java");
    private static final Pattern CALL = Pattern.compile("public (\\w+) (\\w+)\\((.*)\\);");
    private static final Pattern CONSTANT = Pattern.compile("(\\w+) = (-?\\d+)");
    private static final Pattern GROUP = Pattern.compile("Ahead of the calls (.*) the interface says: (---- .*)\\.");

    private final Due due = new Due();
    private final List<String> document;
    private final String source;
    private int constants = 0;
    private int constructors = 0;
    private int calls = 0;

    private FaceTest() throws Exception {
        this.document = Files.readAllLines(Quotes.DOCUMENT);
        this.source = Files.readString(PROGRAM);
    }

    public static void main(String[] args) throws Exception {
        new FaceTest().run();
    }

    private void run() throws Exception {
        due.part("The public face");
        int first = document.indexOf("```java");
        for (int i = first + 1; !document.get(i).equals("```"); i++) {
            line(document.get(i).strip());
        }
        nothingElse();
        groups();
        due.end();
    }

    private void line(String line) throws Exception {
        Matcher call = CALL.matcher(line);
        if (line.equals("public final class AnswerKeeper {")) {
            due.is(line, AnswerKeeper.class.getModifiers(), Modifier.PUBLIC | Modifier.FINAL);
            due.is("it extends nothing", AnswerKeeper.class.getSuperclass() == Object.class ? 1 : 0, 1);
            due.is("it implements nothing", AnswerKeeper.class.getInterfaces().length, 0);
        } else if (line.startsWith("public static final int ")) {
            constants(line);
        } else if (line.equals("public AnswerKeeper();")) {
            due.is(line, AnswerKeeper.class.getDeclaredConstructor().getModifiers(), Modifier.PUBLIC);
            constructors++;
        } else if (call.matches()) {
            call(line, call.group(1), call.group(2), call.group(3));
        } else {
            due.is("a line that is none of these: " + line, line.equals("}") ? 1 : 0, 1);
        }
    }

    private void constants(String line) throws Exception {
        Matcher constant = CONSTANT.matcher(line);
        while (constant.find()) {
            Field field = AnswerKeeper.class.getDeclaredField(constant.group(1));
            due.is(field.getName(), field.getInt(null), Integer.parseInt(constant.group(2)));
            due.is(field.getName() + " is an int", field.getType() == int.class ? 1 : 0, 1);
            due.is(field.getName() + "'s words ahead", field.getModifiers(),
                    Modifier.PUBLIC | Modifier.STATIC | Modifier.FINAL);
            constants++;
        }
    }

    private void call(String line, String type, String name, String parameters) {
        String[] given = parameters.split(", ");
        Class<?>[] types = new Class<?>[given.length];
        for (int i = 0; i < given.length; i++) {
            types[i] = typeOf(given[i].split(" ")[0]);
        }
        try {
            Method method = AnswerKeeper.class.getDeclaredMethod(name, types);
            due.is(line + " is public", method.getModifiers(), Modifier.PUBLIC);
            due.is(line + " answers " + type, method.getReturnType() == typeOf(type) ? 1 : 0, 1);
        } catch (NoSuchMethodException e) {
            due.is("there is " + line, 0, 1);
        }
        due.is(line + " with these names", source.contains(line.replace(");", ") {")) ? 1 : 0, 1);
        calls++;
    }

    private static Class<?> typeOf(String name) {
        switch (name) {
            case "int":
                return int.class;
            case "long":
                return long.class;
            case "boolean":
                return boolean.class;
            default:
                return void.class;
        }
    }

    /** What the document does not tell is private; the classes inside are not seen from outside either. */
    private void nothingElse() {
        int fields = 0;
        for (Field field : AnswerKeeper.class.getDeclaredFields()) {
            fields += Modifier.isPrivate(field.getModifiers()) || field.isSynthetic() ? 0 : 1;
        }
        int made = 0;
        for (Constructor<?> constructor : AnswerKeeper.class.getDeclaredConstructors()) {
            made += Modifier.isPrivate(constructor.getModifiers()) || constructor.isSynthetic() ? 0 : 1;
        }
        int methods = 0;
        for (Method method : AnswerKeeper.class.getDeclaredMethods()) {
            methods += Modifier.isPrivate(method.getModifiers()) || method.isSynthetic() ? 0 : 1;
        }
        due.is("constants in the document", constants, 5);
        due.is("calls in the document", calls, 19);
        due.is("fields that are not private", fields, constants);
        due.is("constructors that are not private", made, constructors);
        due.is("methods that are not private", methods, calls);
        for (Class<?> inside : AnswerKeeper.class.getDeclaredClasses()) {
            due.is(inside.getName() + " is static", Modifier.isStatic(inside.getModifiers()) ? 1 : 0, 1);
            due.is(inside.getName() + " is not public", Modifier.isPublic(inside.getModifiers()) ? 1 : 0, 0);
        }
    }

    /** The calls of a group come after its title and ahead of the next one, in the order of the document. */
    private void groups() {
        int at = 0;
        int groups = 0;
        for (String line : document) {
            Matcher group = GROUP.matcher(line);
            if (group.matches()) {
                at = after(at, "// " + group.group(2), "// " + Pattern.quote(group.group(2)) + "\n");
                for (String call : group.group(1).split(", ")) {
                    at = after(at, call, "public \\w+ " + call.replace("`", "") + "\\(");
                }
                groups++;
            }
        }
        due.is("groups in the document", groups, 3);
    }

    private int after(int at, String name, String form) {
        Matcher place = Pattern.compile(form).matcher(source);
        boolean found = place.find(at);
        due.is("in its place: " + name, found ? 1 : 0, 1);
        return found ? place.end() : at;
    }
}
