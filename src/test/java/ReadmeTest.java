import java.net.URL;
import java.net.URLClassLoader;
import java.nio.file.Files;
import java.nio.file.Path;
import java.util.ArrayList;
import java.util.List;
import java.util.Set;
import java.util.TreeSet;
import java.util.regex.Matcher;
import java.util.regex.Pattern;
import java.util.spi.ToolProvider;

/** README.md's calls, made one after another, each with the answer that it tells. */
public final class ReadmeTest {
    private static final Path README = Path.of("README.md");
    private static final Pattern BLOCK = Pattern.compile("(?s)```java\n(.*?)```");
    private static final Pattern CALL = Pattern.compile("(?:int (\\w+) = )?(plate\\.(\\w+)\\(.*\\)); +// (\\w+|-\\d+): .*");
    private static final Due due = new Due();

    public static void main(String[] args) throws Exception {
        List<String> calls = new ArrayList<>();
        List<String> answers = new ArrayList<>();
        Set<String> names = new TreeSet<>();
        String body = read(calls, answers, names);
        due.is("calls of the face that README.md shows: " + names, names.size(), 30);
        List<?> got = answersOf(body);
        due.is("answers", got.size(), answers.size());
        for (int i = 0; i < answers.size(); i++) {
            String want = answers.get(i).equals("NONE") ? "" + GoldPlate.NONE : answers.get(i);
            due.yes(calls.get(i) + " answered " + got.get(i) + ", README.md tells " + want,
                    want.equals(String.valueOf(got.get(i))));
        }
        due.close();
    }

    /** The examples as lines that gather what each call answers. */
    private static String read(List<String> calls, List<String> answers, Set<String> names) throws Exception {
        StringBuilder body = new StringBuilder();
        Matcher block = BLOCK.matcher(Files.readString(README));
        while (block.find()) {
            for (String line : block.group(1).split("\n")) {
                Matcher call = CALL.matcher(line);
                boolean asks = call.matches();
                due.yes("a line of README.md is a call with its answer: " + line,
                        asks || line.equals("GoldPlate plate = new GoldPlate();"));
                if (!asks) {
                    body.append(line).append('\n');
                    continue;
                }
                calls.add(call.group(2));
                answers.add(call.group(4));
                names.add(call.group(3));
                String name = call.group(1);
                if (name != null) {
                    body.append("int ").append(name).append(" = ").append(call.group(2)).append(";\n");
                }
                body.append("all.add(").append(name != null ? name : call.group(2)).append(");\n");
            }
        }
        return body.toString();
    }

    private static List<?> answersOf(String body) throws Exception {
        Path place = Files.createTempDirectory("readme");
        Path file = place.resolve("Example.java");
        Path made = place.resolve("Example.class");
        try {
            Files.writeString(file, "public class Example { public static java.util.List<Object> answers() {\n"
                    + "java.util.List<Object> all = new java.util.ArrayList<>();\n" + body + "return all; } }\n");
            int failed = ToolProvider.findFirst("javac").orElseThrow().run(System.out, System.out,
                    "-cp", System.getProperty("java.class.path"), "-d", place.toString(), file.toString());
            due.is("javac on README.md's calls", failed, 0);
            try (URLClassLoader loader = new URLClassLoader(new URL[] {place.toUri().toURL()})) {
                return (List<?>) loader.loadClass("Example").getMethod("answers").invoke(null);
            }
        } finally {
            Files.deleteIfExists(made);
            Files.deleteIfExists(file);
            Files.deleteIfExists(place);
        }
    }
}
