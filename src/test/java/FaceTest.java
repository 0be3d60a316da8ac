import java.io.IOException;
import java.lang.reflect.Constructor;
import java.lang.reflect.Field;
import java.lang.reflect.Method;
import java.lang.reflect.Modifier;
import java.nio.file.Files;
import java.nio.file.Path;
import java.util.ArrayList;
import java.util.Arrays;
import java.util.List;
import java.util.TreeSet;
import java.util.regex.Matcher;
import java.util.regex.Pattern;

/** The class has the face that the document writes out, and nothing else that can be seen. */
public final class FaceTest {
    private static final Due due = new Due();

    public static void main(String[] args) throws IOException {
        TreeSet<String> wanted = documentFace();
        TreeSet<String> found = classFace();
        due.compare("the document's face has members", "true", Boolean.toString(wanted.size() > 30));
        for (String member : wanted) {
            due.compare(member, "there", found.contains(member) ? "there" : "missing");
        }
        for (String member : found) {
            due.compare(member, "in the document", wanted.contains(member) ? "in the document" : "not in the document");
        }
        due.compare("the class", "public final", Modifier.toString(CreepBoard.class.getModifiers()));
        noPublicNameTwice();
        nestedClassesAreStatic();
        callsStandUnderTheirHeadings();
        due.end();
    }

    private static TreeSet<String> documentFace() throws IOException {
        String text = Files.readString(Path.of("..", "shared", "DOC.md"));
        int from = text.indexOf("```java");
        String block = text.substring(from, text.indexOf("```", from + 3));
        Matcher m = Pattern.compile("public ((?:int|long) )?(\\w+)\\(([^)]*)\\)([^;]*);").matcher(block);
        TreeSet<String> face = new TreeSet<>();
        while (m.find()) {
            List<String> types = new ArrayList<>();
            for (String parameter : m.group(3).isBlank() ? new String[0] : m.group(3).split(",")) {
                types.add(parameter.trim().split(" ")[0]);
            }
            String thrown = m.group(4).trim().replace("throws ", "").replace(" ", "");
            face.add((m.group(1) == null ? "" : m.group(1)) + m.group(2) + types + " " + thrown);
        }
        return face;
    }

    /** The document names the calls of each part in their order, and what stands ahead of them. */
    private static void callsStandUnderTheirHeadings() throws IOException {
        String text = Files.readString(Path.of("..", "shared", "DOC.md"));
        Matcher m = Pattern.compile("Ahead of the calls (.*) the interface says: (---- [^.\n]*)\\.").matcher(text);
        List<String> wanted = new ArrayList<>();
        while (m.find()) {
            wanted.add(m.group(2));
            wanted.addAll(List.of(m.group(1).replace("`", "").split(", ")));
        }
        String source = Files.readString(Path.of("src", "main", "java", "CreepBoard.java"));
        Matcher line = Pattern.compile("(?m)^    (?:// (---- .*)|public (?:int|long) (\\w+)\\()").matcher(source);
        List<String> found = new ArrayList<>();
        while (line.find()) {
            found.add(line.group(1) == null ? line.group(2) : line.group(1));
        }
        due.compare("headings and calls", "three and all", wanted.size() == 3 + 33 ? "three and all" : "" + wanted.size());
        for (int i = 0; i < wanted.size(); i++) {
            due.compare("place " + i + " of the interface", wanted.get(i), i < found.size() ? found.get(i) : "nothing");
        }
    }

    private static TreeSet<String> classFace() {
        TreeSet<String> face = new TreeSet<>();
        for (Method m : CreepBoard.class.getDeclaredMethods()) {
            if (!Modifier.isPrivate(m.getModifiers())) {
                boolean plain = m.getModifiers() == Modifier.PUBLIC;
                face.add((plain ? "" : "not plainly public: ") + m.getReturnType() + " " + m.getName()
                        + names(m.getParameterTypes()) + " " + String.join(",", names(m.getExceptionTypes())));
            }
        }
        for (Constructor<?> c : CreepBoard.class.getDeclaredConstructors()) {
            if (!Modifier.isPrivate(c.getModifiers())) {
                face.add(c.getDeclaringClass().getSimpleName() + names(c.getParameterTypes()) + " ");
            }
        }
        for (Field f : CreepBoard.class.getDeclaredFields()) {
            if (!Modifier.isPrivate(f.getModifiers())) {
                face.add("field " + f.getName());
            }
        }
        return face;
    }

    private static List<String> names(Class<?>[] types) {
        return Arrays.stream(types).map(Class::getSimpleName).toList();
    }

    private static void noPublicNameTwice() {
        TreeSet<String> open = new TreeSet<>();
        for (Method m : CreepBoard.class.getDeclaredMethods()) {
            if (Modifier.isPublic(m.getModifiers())) {
                due.compare("the public name " + m.getName(), "new", open.add(m.getName()) ? "new" : "there twice");
            }
        }
        List<Class<?>> all = new ArrayList<>(List.of(CreepBoard.class.getDeclaredClasses()));
        all.add(CreepBoard.class);
        for (Class<?> c : all) {
            for (Method m : c.getDeclaredMethods()) {
                if (!Modifier.isPublic(m.getModifiers())) {
                    due.compare("the name of " + c.getSimpleName() + "." + m.getName(), "its own",
                            open.contains(m.getName()) ? "a public one" : "its own");
                }
            }
        }
    }

    private static void nestedClassesAreStatic() {
        for (Class<?> c : CreepBoard.class.getDeclaredClasses()) {
            int modifiers = c.getModifiers();
            boolean fine = Modifier.isStatic(modifiers) && !Modifier.isPublic(modifiers) && !Modifier.isProtected(modifiers);
            due.compare("the class " + c.getSimpleName(), "static and not open", fine ? "static and not open" : "otherwise");
        }
    }
}
