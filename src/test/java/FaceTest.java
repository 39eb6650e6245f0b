import java.io.IOException;
import java.lang.reflect.Constructor;
import java.lang.reflect.Field;
import java.lang.reflect.Method;
import java.lang.reflect.Modifier;
import java.nio.file.DirectoryStream;
import java.nio.file.Files;
import java.nio.file.Path;
import java.util.ArrayList;
import java.util.Arrays;
import java.util.Collections;
import java.util.List;

/** The public face: that it is the document's and nothing more, and that README.md tells it so. */
public final class FaceTest {
    private static final String[] FACE = {
        "void feed(int, int, int, int, int) throws IllegalStateException",
        "void end(int) throws IllegalArgumentException",
        "int read(boolean)",
        "int place()",
        "int functions()",
        "int function(int, int) throws IndexOutOfBoundsException",
        "int words()",
        "int length()",
        "int letter(int) throws IndexOutOfBoundsException",
        "int mark()",
        "boolean again()"
    };
    private final Check check = new Check();

    public static void main(String[] args) throws IOException {
        FaceTest test = new FaceTest();
        test.theClass();
        test.methods();
        test.fields();
        test.classesInside();
        test.readmeTellsTheFace();
        test.readmeTellsTheTests();
        test.readmesExample();
        test.check.close();
    }

    private void theClass() {
        Class<?> face = HomeReader.class;
        check.due("that it is public and final", face.getModifiers(), Modifier.PUBLIC | Modifier.FINAL);
        check.due("its package", face.getPackageName(), "");
        check.due("what it extends", face.getSuperclass(), Object.class);
        check.due("how many interfaces it has", face.getInterfaces().length, 0);
        Constructor<?>[] constructors = face.getDeclaredConstructors();
        check.due("how many constructors it has", constructors.length, 1);
        check.due("that its constructor is public", constructors[0].getModifiers(), Modifier.PUBLIC);
        check.due("what its constructor takes", constructors[0].getParameterCount(), 0);
        check.due("what its constructor throws", constructors[0].getExceptionTypes().length, 0);
    }

    /** All methods that are not private are the document's, and no private one has a name of theirs. */
    private void methods() {
        List<String> open = new ArrayList<>();
        List<String> names = new ArrayList<>();
        for (Method method : HomeReader.class.getDeclaredMethods()) {
            if (!Modifier.isPrivate(method.getModifiers()) && !method.isSynthetic()) {
                check.due("that " + method.getName() + " is public alone", method.getModifiers(), Modifier.PUBLIC);
                open.add(written(method));
                names.add(method.getName());
            }
        }
        for (Method method : HomeReader.class.getDeclaredMethods()) {
            boolean hidden = Modifier.isPrivate(method.getModifiers());
            check.due("that the private " + method.getName() + " bears a name of the face",
                hidden && names.contains(method.getName()), false);
        }
        List<String> due = new ArrayList<>(Arrays.asList(FACE));
        Collections.sort(open);
        Collections.sort(due);
        check.due("the face", open, due);
    }

    private static String written(Method method) {
        StringBuilder text = new StringBuilder(method.getReturnType() + " " + method.getName() + "(");
        for (Class<?> parameter : method.getParameterTypes()) {
            text.append(text.charAt(text.length() - 1) == '(' ? "" : ", ").append(parameter);
        }
        text.append(")");
        for (Class<?> thrown : method.getExceptionTypes()) {
            text.append(" throws ").append(thrown.getSimpleName());
        }
        return text.toString();
    }

    private void fields() {
        List<String> open = new ArrayList<>();
        for (Field field : HomeReader.class.getDeclaredFields()) {
            if (!Modifier.isPrivate(field.getModifiers()) && !field.isSynthetic()) {
                open.add(Modifier.toString(field.getModifiers()) + " " + field.getType() + " " + field.getName());
            }
            boolean shared = Modifier.isStatic(field.getModifiers());
            check.due("that static " + field.getName() + " is final", !shared || Modifier.isFinal(field.getModifiers()), true);
        }
        check.due("the constants of the face", open, List.of("public static final int NONE"));
        check.due("NONE", HomeReader.NONE, -1);
    }

    private void classesInside() {
        for (Class<?> inside : HomeReader.class.getDeclaredClasses()) {
            int shown = inside.getModifiers() & (Modifier.PUBLIC | Modifier.PROTECTED);
            check.due("that " + inside.getName() + " is public or protected", shown, 0);
            check.due("that " + inside.getName() + " is static", Modifier.isStatic(inside.getModifiers()), true);
        }
    }

    /** Each method has its row in the table, and what it throws stands in the row's last cell. */
    private void readmeTellsTheFace() throws IOException {
        for (String method : FACE) {
            String name = method.substring(method.indexOf(' ') + 1, method.indexOf('('));
            String thrown = method.contains(" throws ") ? "`" + method.substring(method.indexOf(" throws ") + 8) + "`" : "nothing";
            String told = "no row";
            for (String line : readme().split("\n")) {
                String[] cells = line.split("\\|");
                if (line.startsWith("| `" + name + "(") && cells.length == 4) {
                    told = cells[3].trim().split(" ")[0];
                }
            }
            check.due("what README.md tells that " + name + " throws", told, thrown);
        }
    }

    private void readmeTellsTheTests() throws IOException {
        try (DirectoryStream<Path> tests = Files.newDirectoryStream(Path.of("src/test/java"), "*Test.java")) {
            for (Path test : tests) {
                String name = test.getFileName().toString().replace(".java", "");
                check.due("that README.md has a row of " + name, readme().contains("\n| `" + name + "` |"), true);
            }
        }
    }

    /** Here as it stands there, comments and all, so that what it says is compiled and asked. */
    private void readmesExample() throws IOException {
        HomeReader reader = new HomeReader();
        reader.feed(0x696e7420, 0x6d61696e, 0x28696e74, 0x206e297b, 0x7d000000); // int main(int n){}
        reader.end(17);                    // only 17 of the twenty bytes count
        int answer = reader.read(false);   // 0: right; NONE: no text; 1 .. 14: what is wrong
        int place = reader.place();        // 0: nothing is wrong; otherwise where, from 1 on
        int many = reader.functions();     // 1: main
        int frame = reader.function(0, 2); // 5: what main takes of the stack
        int first = reader.letter(0);      // 'i', of the plain form: int main ( int n ) { }
        boolean laid = reader.again();     // true: the plain form is on the tape
        check.due("the example's answers", answer + " " + place + " " + many + " " + frame + " " + first + " " + laid,
            "0 0 1 5 " + (int) 'i' + " true");
        check.due("the example's plain form", Check.plainOf(reader), "int main ( int n ) { }");
        String own = Files.readString(Path.of("src/test/java/FaceTest.java"));
        String example = readme().split("```java\n")[1].split("```")[0];
        check.due("how many lines the example has", example.split("\n").length, 9);
        for (String line : example.split("\n")) {
            check.due("that this is asked here: " + line, own.contains("        " + line + "\n"), true);
        }
    }

    private static String readme() throws IOException {
        return Files.readString(Path.of("README.md"));
    }
}
