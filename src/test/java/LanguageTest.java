import java.io.IOException;
import java.lang.reflect.Field;
import java.lang.reflect.Method;
import java.lang.reflect.Modifier;
import java.nio.file.Files;
import java.nio.file.Path;
import java.util.ArrayList;
import java.util.List;

/** The rules of ../shared/LANGUAGE.md, as far as they can be told from the program's lines. */
public final class LanguageTest {
    private static final String[] RULED_OUT = {
        "->", "::", "finally", "synchronized", "assert", "instanceof", "import java.util.*", "import static", "package ",
        "Exception;", ".getMessage", "getClass", "System.out", "System.in", "System.getenv", "nanoTime", "currentTimeMillis",
        "Random", "Thread", "Exact(", "toString", "hashCode", "boolean equals(", "extends Exception", "extends RuntimeException",
        "NullPointer", "ArrayIndex", "NegativeArray", "ArrayStore", "ClassCast", "StackOverflow", "OutOfMemory", "Throwable",
        "catch (Exception", "catch (RuntimeException", "catch (IndexOut", "catch (Arithmetic", "Object", "Integer.parse",
        "String.format", "volatile", "transient", "native", "strictfp", "protected"
    };
    private final Check check = new Check();
    private final List<String> lines = new ArrayList<>();

    public static void main(String[] args) throws IOException {
        LanguageTest test = new LanguageTest();
        String program = Files.readString(Path.of("src/main/java/HomeReader.java"));
        for (String line : program.split("\n")) {
            test.lines.add(line);
        }
        test.signs(program);
        test.nothingRuledOut();
        test.imports();
        test.exceptions();
        test.lengths();
        test.classes();
        test.check.close();
    }

    private void signs(String program) {
        for (int i = 0; i < program.length(); i++) {
            int sign = program.charAt(i);
            if (sign != 10 && (sign < 32 || sign > 126)) {
                check.due("sign " + i + " of the program", sign, 10);
            }
        }
    }

    private void nothingRuledOut() {
        for (String line : lines) {
            String code = withoutComment(line);
            for (String out : RULED_OUT) {
                check.due("that " + out + " stands in " + line, code.contains(out), false);
            }
        }
    }

    private static String withoutComment(String line) {
        String code = line.trim();
        if (code.startsWith("*") || code.startsWith("/*") || code.startsWith("//")) {
            return "";
        }
        return code;
    }

    private void imports() {
        for (String line : lines) {
            if (line.startsWith("import")) {
                check.due("an import", line, "import java.util.Arrays;");
            }
        }
    }

    /** Each throw is one of a new exception, none in a method that catches, or in a constructor. */
    private void exceptions() {
        String method = "";
        boolean throwing = false;
        boolean catching = false;
        for (String line : lines) {
            String code = withoutComment(line);
            if (beginsMethod(line)) {
                method = code;
                throwing = false;
                catching = false;
            }
            throwing = throwing || code.startsWith("throw ");
            catching = catching || code.contains("catch (");
            check.due("that " + method + " throws and catches", throwing && catching, false);
            if (code.startsWith("throw ")) {
                check.due("that this throws a new one: " + code, code.matches(
                    "throw new (IllegalState|IllegalArgument|IndexOutOfBounds)Exception\\(\\);"), true);
                check.due("that no constructor throws: " + method, method.matches("((public|private) )?[A-Z]\\w*\\(.*"), false);
            }
            if (code.contains("catch (")) {
                check.due("that this catches what the program throws: " + code, code.contains("catch (IllegalStateException "), true);
            }
        }
    }

    /** A method has some sixty lines at most; each is closed by a brace as deep as it began. */
    private void lengths() {
        int methods = 0;
        for (int i = 0; i < lines.size(); i++) {
            String line = lines.get(i);
            if (beginsMethod(line)) {
                methods++;
                String end = line.substring(0, line.length() - line.trim().length()) + "}";
                int length = lines.subList(i, lines.size()).indexOf(end) + 1;
                check.due("that this has an end and sixty lines at most: " + line, length > 0 && length <= 60, true);
            }
        }
        check.due("that the methods were found", methods > 100, true);
    }

    private static boolean beginsMethod(String line) {
        return line.matches(" {4}( {4})?\\w.*\\) (throws \\w+ )?\\{") && !line.trim().matches("(if|for|while|switch|try|do|else)\\b.*");
    }

    private void classes() {
        List<Class<?>> all = new ArrayList<>(List.of(HomeReader.class.getDeclaredClasses()));
        all.add(HomeReader.class);
        check.due("that there are twelve classes at most", all.size() <= 12, true);
        for (Class<?> one : all) {
            int fields = 0;
            for (Field field : one.getDeclaredFields()) {
                boolean shared = Modifier.isStatic(field.getModifiers());
                fields += shared ? 0 : 1;
                check.due("that " + field + " is final", !shared || Modifier.isFinal(field.getModifiers()), true);
                check.due("that " + field + " is of a type that a constant may have", !shared
                    || List.of(int.class, long.class, boolean.class, char.class, String.class, int[].class).contains(field.getType()), true);
            }
            check.due("that " + one + " has twenty fields at most", fields <= 20, true);
            for (Method method : one.getDeclaredMethods()) {
                check.due("that " + method + " takes seven at most", method.getParameterCount() <= 7, true);
            }
        }
    }
}
