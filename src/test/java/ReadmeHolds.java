import java.io.File;
import java.io.IOException;
import java.lang.reflect.Method;
import java.lang.reflect.Modifier;
import java.nio.file.Files;
import java.nio.file.Path;
import java.util.ArrayList;
import java.util.Arrays;
import java.util.Comparator;
import java.util.List;
import java.util.Set;
import java.util.TreeSet;
import java.util.regex.Matcher;
import java.util.regex.Pattern;
import java.util.stream.Collectors;
import java.util.stream.Stream;

/** README.md: its example answers as it says, its commands run as they stand there, and no call or test is missing. */
public final class ReadmeHolds {
    private static int wrong = 0;

    public static void main(String[] args) throws IOException, InterruptedException {
        String page = Files.readString(Path.of("README.md"));
        Path work = Files.createTempDirectory("readme");
        try {
            String answers = writeExample(page, work);
            calls(page);
            refusals(page);
            tests(page);
            commands(page, work, answers);
        } finally {
            try (Stream<Path> made = Files.walk(work)) {
                made.sorted(Comparator.reverseOrder()).map(Path::toFile).forEach(File::delete);
            }
        }
        System.out.println(wrong == 0 ? "the page holds" : wrong + " places of README.md do not hold");
        if (wrong != 0) System.exit(1);
    }

    private static void say(String what) {
        wrong++;
        System.out.println("README.md: " + what);
    }

    /** The example as a file, and what it is to print by its remarks. */
    private static String writeExample(String page, Path work) throws IOException {
        Matcher block = Pattern.compile("(?s)```java\n(.*?)```").matcher(page);
        if (!block.find()) {
            say("no example");
            return "";
        }
        String code = block.group(1);
        Files.writeString(work.resolve("Example.java"), code);
        StringBuilder due = new StringBuilder();
        for (String line : code.split("\n")) {
            if (!line.contains("println(")) continue;
            Matcher remark = Pattern.compile("; +// (-?\\d+): ").matcher(line);
            if (remark.find()) due.append(remark.group(1)).append('\n');
            else say("no answer is said of: " + line.trim());
        }
        return due.toString();
    }

    /** Each call with as many arguments as it has, and no other. */
    private static void calls(String page) {
        Set<String> face = new TreeSet<>();
        for (Method m : SixWalls.class.getDeclaredMethods()) {
            if (Modifier.isPublic(m.getModifiers())) face.add(m.getName() + " " + m.getParameterCount());
        }
        Set<String> told = new TreeSet<>();
        Matcher call = Pattern.compile("`([a-zA-Z]+)\\(([a-z, ]*)\\)`").matcher(page);
        while (call.find()) {
            told.add(call.group(1) + " " + (call.group(2).isEmpty() ? 0 : call.group(2).split(",").length));
        }
        if (!told.equals(face)) say("the calls are " + face + ", not " + told);
    }

    private static void refusals(String page) {
        String[] names = {"BAD", "NOT", "FULL", "STATE", "VOID"};
        int[] numbers = {SixWalls.BAD, SixWalls.NOT, SixWalls.FULL, SixWalls.STATE, SixWalls.VOID};
        String flat = page.replaceAll("\\s+", " ");
        for (int i = 0; i < names.length; i++) {
            if (!flat.contains("`" + names[i] + "` (" + numbers[i] + ")")) say(names[i] + " is " + numbers[i]);
        }
    }

    /** The list of tests names each file, and no file that is not there. */
    private static void tests(String page) throws IOException {
        Set<String> there;
        try (Stream<Path> files = Files.list(Path.of("src/test/java"))) {
            there = files.map(f -> f.getFileName().toString()).filter(f -> f.endsWith(".java"))
                .map(f -> f.substring(0, f.length() - 5)).collect(Collectors.toCollection(TreeSet::new));
        }
        Set<String> named = new TreeSet<>();
        Matcher name = Pattern.compile("`([A-Z][a-z]+[A-Za-z]*)`").matcher(page.substring(Math.max(0, page.indexOf("\n- `Promises`"))));
        while (name.find()) named.add(name.group(1));
        if (!named.equals(there)) say("the tests are " + there + ", not " + named);
    }

    private static void commands(String page, Path work, String answers) throws IOException, InterruptedException {
        List<String> typed = new ArrayList<>();
        for (String line : page.split("\n")) {
            if (line.startsWith("    ") && line.trim().matches("(javac|\\.ci/run).*")) typed.add(line.trim());
        }
        if (typed.size() != 4) say("four commands are looked for, not " + typed.size());
        for (String command : typed) {
            // .ci/run runs this test: that it can be typed so is all that can be asked of it here
            if (command.equals(".ci/run")) {
                if (!Files.isExecutable(Path.of(command))) say(command + " can't be run");
                continue;
            }
            String printed = run(command.replace("/tmp/out", work.resolve("out").toString())
                .replace("Example.java", work.resolve("Example.java").toString()));
            if (command.endsWith(" Example") && !printed.equals(answers)) {
                say("the example answers " + Arrays.toString(printed.split("\n")) + ", not " + Arrays.toString(answers.split("\n")));
            }
        }
    }

    private static String run(String command) throws IOException, InterruptedException {
        Process p = new ProcessBuilder("sh", "-c", command).redirectErrorStream(true).start();
        String printed = new String(p.getInputStream().readAllBytes());
        if (p.waitFor() != 0) say(command + " fails:\n" + printed);
        return printed;
    }
}
