import java.io.IOException;
import java.lang.reflect.Method;
import java.lang.reflect.Modifier;
import java.nio.charset.StandardCharsets;
import java.nio.file.Files;
import java.nio.file.Path;
import java.nio.file.Paths;
import java.util.ArrayList;
import java.util.Comparator;
import java.util.List;
import java.util.TreeSet;
import java.util.regex.Matcher;
import java.util.regex.Pattern;
import java.util.stream.Stream;

/** What README.md says is so: its example and its commands are run, its calls and tests are those that there are. */
public final class ReadmeTest {
    private static int wrong = 0;

    public static void main(String[] args) throws Exception {
        String readme = textOf(Paths.get("README.md"));
        commands(readme);
        callsAreOfTheFace(readme);
        testsAreThere(readme);
        refusals();
        System.out.println(wrong == 0 ? "what README.md says is so" : wrong + " faults of README.md");
        if (wrong != 0) {
            System.exit(1);
        }
    }

    private static void must(boolean holds, String what) {
        if (!holds) {
            wrong++;
            System.out.println(what);
        }
    }

    private static String textOf(Path file) throws IOException {
        return new String(Files.readAllBytes(file), StandardCharsets.UTF_8);
    }

    private static List<String> found(String pattern, String text) {
        List<String> all = new ArrayList<>();
        Matcher m = Pattern.compile(pattern, Pattern.DOTALL | Pattern.MULTILINE).matcher(text);
        while (m.find()) {
            all.add(m.group(1));
        }
        return all;
    }

    private static List<String> blocks(String readme, String language) {
        return found("^```" + language + "\n(.*?)^```$", readme);
    }

    /** In a directory of its own, with src beside it, as a reader would do it. */
    private static void commands(String readme) throws Exception {
        List<String> examples = blocks(readme, "java");
        List<String> printed = blocks(readme, "text");
        List<String> commands = blocks(readme, "sh");
        boolean asDue = examples.size() == 1 && printed.size() == 1 && commands.size() == 3;
        must(asDue, "README.md has not one example with what it prints, and three commands");
        if (!asDue) {
            return;
        }
        Path place = Files.createTempDirectory("readme");
        try {
            copySources(place);
            Files.write(place.resolve("Example.java"), examples.get(0).getBytes(StandardCharsets.UTF_8));
            String answer = run(place, commands.get(0));
            String due = printed.get(0);
            must(answer.equals(due), "the example prints\n" + answer + "and README.md says\n" + due);
            // The second one would run this test again: that it is there and may be run is all that is seen to.
            must(Files.isExecutable(Paths.get(commands.get(1).trim())), "not to be run: " + commands.get(1));
            must(run(place, commands.get(2)).endsWith(" 0 wrong\n"), "the test alone does not pass");
        } finally {
            remove(place);
        }
    }

    private static void copySources(Path place) throws IOException {
        try (Stream<Path> all = Files.walk(Paths.get("src"))) {
            for (Path from : (Iterable<Path>) all::iterator) {
                Files.copy(from, place.resolve(from.toString()));
            }
        }
    }

    private static void remove(Path place) throws IOException {
        try (Stream<Path> all = Files.walk(place).sorted(Comparator.reverseOrder())) {
            for (Path each : (Iterable<Path>) all::iterator) {
                Files.delete(each);
            }
        }
    }

    private static String run(Path place, String commands) throws Exception {
        Process sh = new ProcessBuilder("sh", "-e", "-c", commands).directory(place.toFile())
                .redirectError(ProcessBuilder.Redirect.INHERIT).start();
        String answer = new String(sh.getInputStream().readAllBytes(), StandardCharsets.UTF_8);
        must(sh.waitFor() == 0, commands + "ends with a fault");
        return answer.replace("\r\n", "\n");
    }

    /** Each call of the document, with the names that it has there, stands once under 'The calls', in its order. */
    private static void callsAreOfTheFace(String readme) throws IOException {
        List<String> due = new ArrayList<>();
        String document = textOf(Paths.get("../shared/DOC.md"));
        for (String call : found("^    public (?:int|long) (\\w+\\([^)]*\\));$", document)) {
            due.add(call.replace("int ", ""));
        }
        List<String> calls = found("^(### The calls$.*?)^### ", readme);
        must(calls.size() == 1, "README.md does not tell the calls");
        must(due.size() == 33, "the document's face was not found");
        List<String> told = calls.isEmpty() ? calls : found("`(\\w+\\([^)]*\\))`: ", calls.get(0));
        must(told.equals(due), "README.md tells the calls\n" + told + "\nand the document\n" + due);
        TreeSet<String> there = new TreeSet<>();
        for (Method m : AccentShop.class.getDeclaredMethods()) {
            if (Modifier.isPublic(m.getModifiers())) {
                there.add(m.getName());
            }
        }
        TreeSet<String> names = new TreeSet<>();
        for (String call : told) {
            names.add(call.substring(0, call.indexOf('(')));
        }
        must(names.equals(there), "README.md tells " + names + ", and there are " + there);
    }

    private static void testsAreThere(String readme) throws IOException {
        TreeSet<String> there = new TreeSet<>();
        try (Stream<Path> all = Files.list(Paths.get("src/test/java"))) {
            all.forEach(file -> there.add(file.getFileName().toString().replace(".java", "")));
        }
        TreeSet<String> told = new TreeSet<>(found("^- `(\\w+Test)`", readme));
        must(told.equals(there), "README.md tells the tests " + told + ", and there are " + there);
        for (String path : found("`((?:\\.\\./shared|src)/[\\w./]+)`", readme)) {
            must(Files.exists(Paths.get(path)), "README.md names " + path + ", and it is not there");
        }
    }

    /** The paragraph 'Refusals', number by number. */
    private static void refusals() {
        AccentShop shop = new AccentShop();
        must(AccentShop.NONE == -1 && AccentShop.BAD == -2, "NONE, BAD");
        must(AccentShop.NOT == -3 && AccentShop.FULL == -4, "NOT, FULL");
        must(shop.lose(4) == AccentShop.BAD, "BAD");
        must(shop.back() == AccentShop.NOT, "NOT");
        must(shop.custom(0, 0, 0) == Long.MIN_VALUE + 2, "the least long and 2 more");
        must(shop.get(4, 0, 0) == Integer.MIN_VALUE && shop.get(0, 0, 0) == Integer.MIN_VALUE, "the least int");
        shop.sheet(0, 0, 1);
        shop.sheet(1, 1, 1);
        int[] findings = {shop.lose(2), shop.lay(0, 0, 1, 0), shop.lay(0, 1, 0, 0), shop.copy(0, 0, 1, 0, 1)};
        for (int i = 0; i < findings.length; i++) {
            must(findings[i] == -11 - i, "finding " + (i + 1));
        }
        must(shop.sheet(0, 0, -1) == -15 && shop.count(8) == 5, "finding 5");
    }
}
