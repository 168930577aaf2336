import java.lang.reflect.Field;
import java.lang.reflect.Method;
import java.lang.reflect.Modifier;
import java.nio.file.Files;
import java.nio.file.Path;
import java.util.IdentityHashMap;
import java.util.Map;
import java.util.Set;
import java.util.TreeSet;
import java.util.regex.Matcher;
import java.util.regex.Pattern;

/** The document's face and the rules of LANGUAGE.md, as far as a look at the source and the class tells them. */
public final class LanguageTest {
    private static final Path SOURCE = Path.of("src/main/java/GoldPlate.java");
    private static final Path DOCUMENT = Path.of("../shared/DOC.md");
    private static final Due due = new Due();

    public static void main(String[] args) throws Exception {
        face();
        String code = bare(Files.readString(SOURCE));
        forbidden(code);
        methods(code);
        classes();
        room();
        due.close();
    }

    private static void face() throws Exception {
        String document = Files.readString(DOCUMENT);
        int from = document.indexOf("```java");
        String face = document.substring(from, document.indexOf("```", from + 7));
        Set<String> want = new TreeSet<>();
        Matcher m = Pattern.compile("public (int|boolean) (\\w+)\\(([^)]*)\\);").matcher(face);
        while (m.find()) {
            int count = m.group(3).isBlank() ? 0 : m.group(3).split(",").length;
            want.add(m.group(1) + " " + m.group(2) + " " + count);
        }
        Set<String> got = new TreeSet<>();
        Set<String> hidden = new TreeSet<>();
        for (Method method : GoldPlate.class.getDeclaredMethods()) {
            String name = method.getReturnType() + " " + method.getName() + " " + method.getParameterCount();
            (Modifier.isPublic(method.getModifiers()) ? got : hidden).add(name);
            due.yes(name + " is public or private", (method.getModifiers() & (Modifier.PUBLIC | Modifier.PRIVATE)) != 0);
        }
        due.is("methods of the face", want.size(), 30);
        due.yes("the face is the document's: " + got, got.equals(want));
        for (Field field : GoldPlate.class.getDeclaredFields()) {
            boolean constant = field.getName().equals("NONE") || field.getName().equals("SPENT");
            due.yes(field.getName(), Modifier.isPublic(field.getModifiers()) == constant);
            due.yes(field.getName() + " is public or private", constant || Modifier.isPrivate(field.getModifiers()));
        }
        due.yes("the class is final", Modifier.isFinal(GoldPlate.class.getModifiers()));
        due.is("constructors", GoldPlate.class.getDeclaredConstructors().length, 1);
        Set<String> names = new TreeSet<>();
        for (String w : want) {
            names.add(w.split(" ")[1]);
        }
        for (Class<?> inner : GoldPlate.class.getDeclaredClasses()) {
            for (Method method : inner.getDeclaredMethods()) {
                due.no(inner.getSimpleName() + "." + method.getName() + " bears a public name", names.contains(method.getName()));
            }
        }
        for (String h : hidden) {
            due.no(h + " bears a public name", names.contains(h.split(" ")[1]));
        }
    }

    /** The source without comments, and with empty texts. */
    private static String bare(String source) {
        String code = source.replaceAll("\"[^\"\\n]*\"", "\"\"").replaceAll("//[^\\n]*", "");
        return Pattern.compile("/\\*.*?\\*/", Pattern.DOTALL).matcher(code).replaceAll("");
    }

    private static void forbidden(String code) throws Exception {
        String[] words = {"throw", "throws", "try", "catch", "finally", "synchronized", "assert", "import", "package",
            "native", "volatile", "transient", "var", "double", "float", "System", "Object", "MAX_VALUE", "MIN_VALUE"};
        for (String word : words) {
            due.no("the word " + word, Pattern.compile("\\b" + word + "\\b").matcher(code).find());
        }
        for (String sign : new String[] {"->", "::", "Exact(", "\" +", "+ \"", "while (true)", "for (;;)"}) {
            due.no("the sign " + sign, code.contains(sign));
        }
        for (char c : Files.readString(SOURCE).toCharArray()) {
            if (c > 126 || c < 32 && c != '\n') {
                due.no("a sign " + (int) c, true);
            }
        }
    }

    /** Methods are short, take few things and make no objects but in constructors. */
    private static void methods(String code) {
        Matcher m = Pattern.compile("\\n( {4}| {8})((?:public |private |static |final )*)(\\w[\\w\\[\\]]* )?(\\w+)\\(([^)]*)\\) \\{\\n").matcher(code);
        int count = 0;
        while (m.find()) {
            String close = "\n" + m.group(1) + "}\n";
            String body = code.substring(m.end() - 1, code.indexOf(close, m.end() - 2) + 1);
            boolean constructor = m.group(3) == null;
            count++;
            due.yes(m.group(4) + " is short", body.lines().count() <= 60);
            due.yes(m.group(4) + " takes few", m.group(5).split(",").length <= 7);
            due.yes(m.group(4) + " makes nothing", constructor || !Pattern.compile("\\bnew\\b").matcher(body).find());
        }
        due.yes("methods were looked at: " + count, count > 100);
    }

    private static void classes() {
        Class<?>[] inner = GoldPlate.class.getDeclaredClasses();
        due.yes("some twelve classes: " + inner.length, inner.length <= 11);
        fields(GoldPlate.class);
        for (Class<?> c : inner) {
            fields(c);
            due.yes(c + " is static", Modifier.isStatic(c.getModifiers()));
        }
    }

    private static void fields(Class<?> c) {
        int count = 0;
        for (Field field : c.getDeclaredFields()) {
            boolean isStatic = Modifier.isStatic(field.getModifiers());
            due.yes(c + " " + field.getName(), !isStatic || Modifier.isFinal(field.getModifiers()));
            count += isStatic ? 0 : 1;
        }
        due.yes(c + " has some twenty fields: " + count, count <= 20);
    }

    /** What an object holds; nothing else is ever made, so this is all that it takes of the room. */
    private static void room() throws Exception {
        Map<Object, Boolean> seen = new IdentityHashMap<>();
        long elements = count(new GoldPlate(), seen);
        due.yes("objects and arrays: " + seen.size(), seen.size() <= 150);
        due.yes("fields and elements: " + elements, elements <= 10000);
    }

    private static long count(Object o, Map<Object, Boolean> seen) throws Exception {
        if (o == null || seen.put(o, true) != null) {
            return 0;
        }
        if (o.getClass().isArray()) {
            long sum = java.lang.reflect.Array.getLength(o);
            if (o instanceof Object[] parts) {
                for (Object part : parts) {
                    due.yes("a part is there", part != null);
                    sum += count(part, seen);
                }
            }
            return sum;
        }
        long sum = 0;
        for (Field field : o.getClass().getDeclaredFields()) {
            if (!Modifier.isStatic(field.getModifiers())) {
                field.setAccessible(true);
                sum++;
                if (!field.getType().isPrimitive()) {
                    due.yes(field + " is there", field.get(o) != null);
                    sum += count(field.get(o), seen);
                }
            }
        }
        return sum;
    }
}
