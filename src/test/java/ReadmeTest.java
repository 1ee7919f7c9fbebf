import java.io.File;
import java.io.IOException;
import java.nio.file.Files;
import java.nio.file.Path;
import java.util.ArrayList;
import java.util.Comparator;
import java.util.List;
import java.util.TreeSet;
import java.util.regex.Matcher;
import java.util.regex.Pattern;
import java.util.stream.Stream;

/** Follows README.md as it stands, in a folder of its own that is laid out like this checkout. */
public final class ReadmeTest {
    private static final Pattern BLOCK = Pattern.compile("(?ms)^```(\\w+)\n(.*?)^```$");
    private static final Pattern CLASS = Pattern.compile("public final class (\\w+)");
    private static final Pattern CALL = Pattern.compile("(?m)^    public (?:int|long|double) (\\w+)\\(([^)]*)\\)");
    private static final Pattern TEST = Pattern.compile("`(\\w+Test)`");
    private static final String ALL_TESTS = ".ci/run";

    private final String readme = Files.readString(Path.of("README.md"));
    private final Path folder = Files.createTempDirectory("readme");

    private ReadmeTest() throws IOException {
    }

    public static void main(String[] args) throws IOException, InterruptedException {
        ReadmeTest test = new ReadmeTest();
        try {
            test.namesEachCall();
            test.namesEachTest();
            test.layOut();
            test.follow();
        } finally {
            test.clear();
        }
        Check.finish("ReadmeTest");
    }

    private void namesEachCall() throws IOException {
        Matcher call = CALL.matcher(Files.readString(Path.of("src/main/java/FogBridge.java")));
        int calls = 0;
        while (call.find()) {
            String written = call.group(1) + "(" + call.group(2).replaceAll("\\w+ (\\w+)", "$1") + ")";
            Check.isTrue("README names " + written, readme.contains("| `" + written + "` |"));
            calls++;
        }
        Check.is("calls of the face", calls, 21);
    }

    private void namesEachTest() {
        TreeSet<String> named = new TreeSet<>();
        Matcher test = TEST.matcher(readme);
        while (test.find()) {
            named.add(test.group(1));
        }
        TreeSet<String> found = new TreeSet<>();
        for (String file : new File("src/test/java").list()) {
            if (file.endsWith("Test.java")) {
                found.add(file.substring(0, file.length() - ".java".length()));
            }
        }
        Check.isTrue("README names " + named + ", there are " + found, named.equals(found));
    }

    private void layOut() throws IOException {
        Path main = Files.createDirectory(folder.resolve("main"));
        Files.createSymbolicLink(main.resolve("src"), Path.of("src").toRealPath());
        Files.createSymbolicLink(folder.resolve("shared"), Path.of("../shared").toRealPath());
    }

    private void follow() throws IOException, InterruptedException {
        List<String[]> blocks = new ArrayList<>();
        Matcher block = BLOCK.matcher(readme);
        while (block.find()) {
            blocks.add(new String[] {block.group(1), block.group(2)});
        }
        int commands = 0;
        for (int i = 0; i < blocks.size(); i++) {
            String text = blocks.get(i)[1];
            if (blocks.get(i)[0].equals("java")) {
                save(text);
            } else if (blocks.get(i)[0].equals("sh")) {
                boolean isTold = i + 1 < blocks.size() && blocks.get(i + 1)[0].equals("text");
                run(text, isTold ? blocks.get(i + 1)[1] : null);
                commands++;
            }
        }
        Check.isTrue("README tells how to use the class and how to run its tests", commands >= 2);
        Check.isTrue("README tells of " + ALL_TESTS, readme.contains("```sh\n" + ALL_TESTS + "\n```"));
    }

    private void save(String text) throws IOException {
        Matcher name = CLASS.matcher(text);
        boolean isWhole = name.find();
        Check.isTrue("a whole file:\n" + text, isWhole);
        if (isWhole) {
            Files.writeString(folder.resolve("main").resolve(name.group(1) + ".java"), text);
        }
    }

    private void run(String commands, String told) throws IOException, InterruptedException {
        if (commands.strip().equals(ALL_TESTS)) {
            // This test runs inside it, so it can only be looked at.
            Check.isTrue("it can be run: " + ALL_TESTS, Files.isExecutable(Path.of(ALL_TESTS)));
            return;
        }
        Process process = new ProcessBuilder("sh", "-e", "-c", commands)
            .directory(folder.resolve("main").toFile()).redirectErrorStream(true).start();
        String output = new String(process.getInputStream().readAllBytes());
        Check.is("exit of\n" + commands + output, process.waitFor(), 0);
        if (told != null) {
            Check.isTrue("README tells\n" + told + "and it is\n" + output, output.equals(told));
        }
    }

    private void clear() throws IOException {
        try (Stream<Path> paths = Files.walk(folder)) {
            for (Path path : paths.sorted(Comparator.reverseOrder()).toList()) {
                Files.delete(path);
            }
        }
    }
}
