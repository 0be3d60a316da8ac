import java.io.IOException;
import java.lang.reflect.Field;
import java.lang.reflect.Modifier;
import java.nio.file.Files;
import java.nio.file.Path;
import java.util.ArrayList;
import java.util.List;
import java.util.Set;
import java.util.regex.Matcher;
import java.util.regex.Pattern;

/** Those rules of LANGUAGE.md that can be told from the text of the class alone. */
public final class LanguageTest {
    private static final Set<String> LIBRARY = Set.of(
            "Math.abs", "Math.max", "Math.min", "Math.floorDiv", "Math.floorMod",
            "Integer.bitCount", "Integer.compare", "Integer.MAX_VALUE", "Integer.MIN_VALUE",
            "Long.compare", "Long.bitCount", "System.arraycopy", "Arrays.fill", "Arrays.copyOf", "Arrays.copyOfRange");
    private static final Set<String> EXCEPTIONS = Set.of(
            "IllegalStateException", "IllegalArgumentException", "IndexOutOfBoundsException", "ArithmeticException",
            "UnsupportedOperationException", "NoSuchElementException", "RuntimeException");
    private static final Set<String> MACHINE = Set.of(
            "ArrayIndexOutOfBoundsException", "NullPointerException", "ArithmeticException", "ClassCastException",
            "NegativeArraySizeException", "ArrayStoreException", "IndexOutOfBoundsException", "RuntimeException",
            "Exception", "Throwable");

    private static final Due due = new Due();

    public static void main(String[] args) throws IOException {
        String source = Files.readString(Path.of("src", "main", "java", "CreepBoard.java"));
        String code = source.replaceAll("(?s)/\\*.*?\\*/", "").replaceAll("//[^\n]*", "");
        none("a sign beyond 127", source, "[^\\x00-\\x7f]");
        none("package (head)", code, "\\bpackage\\b");
        none("lambda or method reference (2)", code, "->|::");
        none("finally, synchronized, assert (6)", code, "\\b(finally|synchronized|assert)\\b");
        none("static block (5)", code, "\\bstatic\\s*\\{");
        none("Exact functions (4)", code, "\\w+Exact\\b");
        none("annotation (4)", code, "@\\w+");
        none("own exception class (6)", code, "extends\\s+\\w*Exception\\b");
        none("equals, hashCode, toString of own objects (6)", code, "\\b(hashCode|toString|getMessage|printStackTrace)\\b");
        none("static field that is not final (5)", code, "\\bstatic\\s+(?!final\\b)[\\w\\[\\]]+\\s+\\w+\\s*(=|;)");
        none("loop without an end of its own (9)", code, "while\\s*\\(\\s*true|for\\s*\\([^;]*;\\s*;");
        library(code);
        exceptions(code);
        methodsAreShort(code.split("\n"));
        fieldsAreFewAndPlain();
        due.compare("classes, twelve at most (11)", "true", Boolean.toString(all("\\bclass\\s+\\w+", code).size() <= 12));
        due.end();
    }

    private static void fieldsAreFewAndPlain() {
        List<Class<?>> classes = new ArrayList<>(List.of(CreepBoard.class.getDeclaredClasses()));
        classes.add(CreepBoard.class);
        for (Class<?> c : classes) {
            int own = 0;
            for (Field f : c.getDeclaredFields()) {
                if (Modifier.isStatic(f.getModifiers())) {
                    due.compare("static field (5): " + f, "a constant", f.getType() == int.class ? "a constant" : "no constant");
                } else {
                    own++;
                }
                due.compare("type (3): " + f, "plain", isPlain(f.getType(), classes) ? "plain" : "another");
            }
            due.compare("fields of " + c.getSimpleName() + ", twenty at most (11)", "true", Boolean.toString(own <= 20));
        }
    }

    /** A number, a truth, a class of its own, a row of these, or rows of numbers in a row. */
    private static boolean isPlain(Class<?> type, List<Class<?>> own) {
        if (!type.isArray()) {
            return type.isPrimitive() || own.contains(type);
        }
        Class<?> part = type.getComponentType();
        return part.isArray() ? part.getComponentType().isPrimitive() && part.getComponentType() != boolean.class
                : part.isPrimitive() || own.contains(part);
    }

    private static List<String> all(String pattern, String code) {
        return Pattern.compile(pattern).matcher(code).results().map(r -> r.group()).toList();
    }

    private static void none(String what, String code, String pattern) {
        due.compare(what, "[]", all(pattern, code).toString());
    }

    private static void library(String code) {
        for (String use : all("\\b(Math|Integer|Long|System|Arrays)\\.\\w+", code)) {
            due.compare("library use (4)", use, LIBRARY.contains(use) ? use : use + ", not in the list");
        }
        for (String use : all("\\bimport\\s+[\\w.]+", code)) {
            due.compare("import (4)", "from java.util", use.startsWith("import java.util.") ? "from java.util" : use);
        }
    }

    private static void exceptions(String code) {
        Matcher thrown = Pattern.compile("throw\\s+new\\s+(\\w+)\\(([^)]*)\\)").matcher(code);
        int whole = 0;
        while (thrown.find()) {
            whole++;
            due.compare("thrown (6)", "true", Boolean.toString(EXCEPTIONS.contains(thrown.group(1))));
            due.compare("written text (6)", "true", Boolean.toString(thrown.group(2).matches("|\"[^\"]*\"")));
        }
        due.compare("every throw makes what it throws (6)", "" + all("\\bthrow\\b", code).size(), "" + whole);
        Matcher caught = Pattern.compile("catch\\s*\\(\\s*(\\w+)").matcher(code);
        while (caught.find()) {
            due.compare("caught, not the machine's", "false", Boolean.toString(MACHINE.contains(caught.group(1))));
        }
    }

    /** By the indents: a method's head ends in a brace, and its own brace stands under it. */
    private static void methodsAreShort(String[] lines) {
        for (int i = 0; i < lines.length; i++) {
            Matcher head = Pattern.compile("^( {4}| {8})\\S.*\\)[^;]*\\{$").matcher(lines[i]);
            if (!head.find() || lines[i].matches("\\s*(if|for|while|switch|}).*")) {
                continue;
            }
            int end = i;
            while (end < lines.length && !lines[end].equals(head.group(1) + "}")) {
                end++;
            }
            due.compare("short (11): " + lines[i].trim(), "true", Boolean.toString(end - i < 60));
            due.compare("seven parameters at most (11): " + lines[i].trim(), "true",
                    Boolean.toString(lines[i].chars().filter(c -> c == ',').count() < 8));
        }
    }
}
