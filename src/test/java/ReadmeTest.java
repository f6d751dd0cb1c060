import java.io.ByteArrayOutputStream;
import java.io.File;
import java.io.IOException;
import java.io.PrintStream;
import java.lang.reflect.Method;
import java.lang.reflect.Modifier;
import java.nio.charset.StandardCharsets;
import java.nio.file.Files;
import java.nio.file.Path;

/** What README.md says holds: its program prints what is said there, and it names each call and each test. */
public final class ReadmeTest {

    private static final String PROGRAM = "```java\n", ANY = "```\n";

    public static void main(String[] args) throws IOException {
        String readme = Files.readString(Path.of("README.md"));
        String program = between(readme, PROGRAM, ANY);
        Check.due("the program", program, Files.readString(Path.of("src/test/java/Game.java")));
        String behindProgram = readme.substring(readme.indexOf(program) + program.length() + ANY.length());
        Check.due("what it prints", printedByGame(), between(behindProgram, ANY, ANY));
        namesEachCall(readme);
        namesEachTest(readme);
        Check.end("ReadmeTest");
    }

    private static String between(String text, String opening, String closing) {
        int first = text.indexOf(opening) + opening.length();
        return text.substring(first, text.indexOf(closing, first));
    }

    private static String printedByGame() {
        ByteArrayOutputStream printed = new ByteArrayOutputStream();
        PrintStream out = System.out;
        System.setOut(new PrintStream(printed, true, StandardCharsets.UTF_8));
        Game.main(new String[0]);
        System.setOut(out);
        return printed.toString(StandardCharsets.UTF_8).replace(System.lineSeparator(), "\n");
    }

    private static void namesEachCall(String readme) {
        for (Method method : VineWall.class.getDeclaredMethods()) {
            if (Modifier.isPublic(method.getModifiers())) {
                String call = "`" + method.getName() + (method.getParameterCount() == 0 ? "()`" : "(");
                Check.due("README.md names " + call, readme.contains(call), true);
            }
        }
    }

    private static void namesEachTest(String readme) {
        String[] files = new File("src/test/java").list();
        Check.due("src/test/java is there", files != null, true);
        for (String file : files == null ? new String[0] : files) {
            if (file.endsWith("Test.java")) {
                String test = "`" + file.replace(".java", "") + "`";
                Check.due("README.md names " + test, readme.contains(test), true);
            }
        }
    }
}
