import java.io.IOException;
import java.lang.reflect.Method;
import java.lang.reflect.Modifier;
import java.nio.charset.StandardCharsets;
import java.nio.file.Files;
import java.nio.file.Path;
import java.util.Comparator;
import java.util.List;
import java.util.stream.Collectors;
import java.util.stream.Stream;

/** The README tells of each call, and its example prints what the README says. */
public final class ReadmeTest {
    private static int wrong = 0;

    public static void main(String[] args) throws Exception {
        String readme = Files.readString(Path.of("README.md"));
        due("the example prints", printed(block(readme, "java")), block(readme, "text"));
        for (Method method : SaltRow.class.getDeclaredMethods()) {
            if (Modifier.isPublic(method.getModifiers())) {
                due("it tells of " + method.getName(), readme.contains("`" + method.getName() + "("), true);
            }
        }
        for (String test : sources("src/test/java")) {
            due("it tells of " + test, readme.contains("`src/test/java/" + test + "`"), true);
        }
        System.out.println(wrong == 0 ? "the README is as due" : wrong + " things are not as due");
        if (wrong != 0) {
            System.exit(1);
        }
    }

    private static void due(String what, Object got, Object want) {
        if (!got.equals(want)) {
            wrong++;
            System.out.println(what + ": " + got + ", due is " + want);
        }
    }

    private static String block(String text, String kind) {
        int from = text.indexOf("```" + kind + "\n");
        int to = text.indexOf("\n```", from + 3);
        return from < 0 || to < 0 ? "" : text.substring(text.indexOf('\n', from) + 1, to).strip();
    }

    private static List<String> sources(String directory) throws IOException {
        try (Stream<Path> all = Files.list(Path.of(directory))) {
            return all.map(it -> it.getFileName().toString()).filter(it -> it.endsWith(".java")).collect(Collectors.toList());
        }
    }

    /** What the example prints, when it is compiled as the README says. */
    private static String printed(String example) throws Exception {
        Path out = Files.createTempDirectory("readme");
        try {
            Path source = Files.writeString(out.resolve("Example.java"), example);
            String compiled = run("javac", "-d", out.toString(), "src/main/java/SaltRow.java", source.toString());
            return compiled.isEmpty() ? run("java", "-cp", out.toString(), "Example") : compiled;
        } finally {
            try (Stream<Path> all = Files.walk(out)) {
                all.sorted(Comparator.reverseOrder()).forEach(it -> it.toFile().delete());
            }
        }
    }

    private static String run(String... command) throws Exception {
        Process process = new ProcessBuilder(command).redirectError(ProcessBuilder.Redirect.INHERIT).start();
        String told = new String(process.getInputStream().readAllBytes(), StandardCharsets.UTF_8).strip();
        return process.waitFor() == 0 ? told : "ended with " + process.exitValue() + ": " + told;
    }
}
