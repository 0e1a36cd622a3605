import java.io.ByteArrayOutputStream;
import java.io.IOException;
import java.io.PrintStream;
import java.lang.reflect.Method;
import java.lang.reflect.Modifier;
import java.nio.charset.StandardCharsets;
import java.nio.file.Files;
import java.nio.file.Path;

/** README.md: what it says of the class, its example and its tests is so. */
public final class ReadmeTest {
    private static final Check CHECK = new Check();

    public static void main(String[] args) throws IOException {
        String readme = textOf("README.md");
        everyCall(readme);
        example(readme);
        everyTest(readme);
        CHECK.finish();
    }

    private static String textOf(String file) throws IOException {
        return Files.readString(Path.of(file), StandardCharsets.UTF_8);
    }

    private static void everyCall(String readme) {
        for (Method method : TaleMachine.class.getDeclaredMethods()) {
            if (Modifier.isPublic(method.getModifiers())) {
                CHECK.so(method.getName() + " is told", readme.contains("| `" + method.getName() + "("), true);
            }
        }
        CHECK.so("the constants are told", readme.contains("`BAD` is -1, `STATE` -2, `FULL` -3, `NONE` -4"), true);
        CHECK.so("the constants are so", TaleMachine.BAD == -1 && TaleMachine.STATE == -2 && TaleMachine.FULL == -3
                && TaleMachine.NONE == -4, true);
    }

    private static void example(String readme) throws IOException {
        String source = textOf("src/test/java/Example.java");
        CHECK.so("the example is the one that is compiled", readme.contains("```java\n" + source + "```\n"), true);
        CHECK.so("it prints what is told", readme.contains("```text\n" + printedByExample() + "```\n"), true);
    }

    private static String printedByExample() {
        PrintStream console = System.out;
        ByteArrayOutputStream printed = new ByteArrayOutputStream();
        System.setOut(new PrintStream(printed, true, StandardCharsets.UTF_8));
        Example.main(new String[0]);
        System.setOut(console);
        return printed.toString(StandardCharsets.UTF_8).replace("\r\n", "\n");
    }

    private static void everyTest(String readme) throws IOException {
        CHECK.so("how to run all tests is told", readme.contains("```sh\n.ci/run\n```\n"), true);
        CHECK.so("what it tells to run is there", Files.isExecutable(Path.of(".ci/run")), true);
        try (var files = Files.list(Path.of("src/test/java"))) {
            for (Path file : files.toList()) {
                String name = file.getFileName().toString().replace(".java", "");
                String family = name.replaceAll("^(Terms|Promises).*Test$", "$1*Test");
                CHECK.so(name + " is told", readme.contains("`" + family + "`") || name.equals("Example"), true);
            }
        }
    }
}
