import java.io.IOException;
import java.lang.reflect.Constructor;
import java.lang.reflect.Field;
import java.lang.reflect.InvocationTargetException;
import java.lang.reflect.Method;
import java.lang.reflect.Modifier;
import java.nio.file.DirectoryStream;
import java.nio.file.Files;
import java.nio.file.Path;
import java.util.List;
import java.util.Set;
import java.util.TreeSet;
import java.util.regex.Matcher;
import java.util.regex.Pattern;

/** Tries what README.md says: each line of its Java, with the answer behind it, and what else it names. */
public final class ReadmeTest {
    private static final Pattern NEW = Pattern.compile("WaxCopies x = new WaxCopies\\(\\);");
    private static final Pattern LOOP = Pattern.compile("for \\(char sign : \"([!-~&&[^\"\\\\]]+)\"\\.toCharArray\\(\\)\\) \\{");
    private static final Pattern CALL =
        Pattern.compile("( *)(x\\.(\\w+)\\(([^()]*)\\));\\s+// (throws \\w+|[-\\w.]+( to \\d+)?)(: .+)?");
    private static final Pattern NUMBER = Pattern.compile("-?\\d+");
    private static final Pattern SIGN = Pattern.compile("'([!-~&&[^'\\\\]])'");
    private static final Pattern RANGE = Pattern.compile("(\\d+) to (\\d+)");
    private static final Pattern QUOTED = Pattern.compile("`([^`]+)`");
    private static final String INDENT = "    ";
    private static final String HEADING = "### ";

    private final Checks c;
    private final Set<String> shown = new TreeSet<>();
    private final Set<String> headed = new TreeSet<>();
    private Set<String> heading = Set.of();
    private boolean nothingChanges = false;
    private WaxCopies x = null;
    private String loop = null;
    private boolean inJava = false;
    private int blocks = 0;
    private int calls = 0;

    private ReadmeTest(Checks checks) {
        c = checks;
    }

    public static void main(String[] args) throws Exception {
        Checks checks = new Checks("ReadmeTest");
        ReadmeTest test = new ReadmeTest(checks);
        List<String> lines = Files.readAllLines(Path.of("README.md"));
        for (int i = 0; i < lines.size(); i++) {
            checks.within("README.md, line " + (i + 1));
            test.read(lines.get(i));
        }
        checks.within("README.md");
        test.readToTheEnd();
        filesAndTests(checks, String.join("\n", lines));
        checks.end();
    }

    private void read(String line) throws Exception {
        if (line.startsWith("```")) {
            if (!line.equals(inJava ? "```" : "```java")) {
                c.tell("a block that no one can try: " + line);
            }
            endOfLoop();
            inJava = !inJava;
            blocks += inJava ? 1 : 0;
            x = null;
        } else if (inJava) {
            readJava(line);
        } else {
            readProse(line);
        }
    }

    private void readJava(String line) throws Exception {
        Matcher call = CALL.matcher(line);
        Matcher begin = LOOP.matcher(line);
        if (NEW.matcher(line).matches()) {
            shown.add("constructor");
            x = new WaxCopies();
        } else if (x == null) {
            c.tell("a block without a new object ahead of: " + line);
        } else if (begin.matches() && loop == null) {
            loop = begin.group(1);
        } else if (line.equals("}") && loop != null) {
            loop = null;
        } else if (call.matches() && call.group(1).equals(loop == null ? "" : INDENT)) {
            tryLine(call.group(2), call.group(3), call.group(4), call.group(5));
        } else if (!line.isEmpty() || loop != null) {
            c.tell("a line that no one can try: " + line);
        }
    }

    private void readProse(String line) {
        if (line.startsWith(HEADING)) {
            heading = new TreeSet<>(List.of(line.replaceAll("[^:]*: ?", "").split(", ")));
            headed.addAll(heading);
            nothingChanges = false;
        }
        nothingChanges |= line.startsWith("These change nothing");
        // a call in words has no answer behind it: it would be shown without being tried
        for (Method method : WaxCopies.class.getDeclaredMethods()) {
            if (line.matches(".*\\b" + method.getName() + "\\(.*")) {
                c.tell("a call outside of the blocks: " + line);
            }
        }
    }

    private void endOfLoop() {
        if (loop != null) {
            c.tell("a loop without an end");
            loop = null;
        }
    }

    private void tryLine(String text, String name, String arguments, String said) throws Exception {
        Method method = ofTheFace(name, arguments.isEmpty() ? 0 : arguments.split(", ").length);
        if (method == null) {
            c.tell("no such method: " + text);
            return;
        }
        shown.add(name);
        if (loop == null) {
            dueAnswer(text, method, arguments, said);
            return;
        }
        Matcher range = RANGE.matcher(said);
        if (!range.matches() || !arguments.equals("sign")) {
            c.tell("a loop's line that no one can try: " + text);
            return;
        }
        int first = Integer.parseInt(range.group(1));
        for (int i = 0; i < loop.length(); i++) {
            dueAnswer("x." + name + " of sign " + i, method, "'" + loop.charAt(i) + "'", String.valueOf(first + i));
        }
        c.due("the last answer of the loop", first + loop.length() - 1, Integer.parseInt(range.group(2)));
    }

    private void dueAnswer(String text, Method method, String arguments, String said) throws Exception {
        calls++;
        long before = x.digest();
        c.dueText(text, answer(method, argumentsOf(arguments)), meant(said));
        if (said.startsWith("throws") || nothingChanges && heading.contains(method.getName())) {
            c.due(text + " changes nothing: the digest", x.digest(), before);
        }
    }

    private String meant(String said) throws Exception {
        for (Field field : WaxCopies.class.getDeclaredFields()) {
            if (Modifier.isPublic(field.getModifiers()) && field.getName().equals(said)) {
                shown.add(said);
                return String.valueOf(field.getInt(null));
            }
        }
        return said;
    }

    private String answer(Method method, Object[] arguments) throws Exception {
        try {
            Object got = method.invoke(x, arguments);
            return got instanceof Float ? got + "f" : String.valueOf(got);
        } catch (InvocationTargetException e) {
            return "throws " + e.getCause().getClass().getSimpleName();
        }
    }

    private Object[] argumentsOf(String text) {
        if (text.isEmpty()) {
            return new Object[0];
        }
        String[] parts = text.split(", ");
        Object[] arguments = new Object[parts.length];
        for (int i = 0; i < parts.length; i++) {
            Matcher sign = SIGN.matcher(parts[i]);
            if (!sign.matches() && !NUMBER.matcher(parts[i]).matches()) {
                c.tell("no number and no sign: " + parts[i]);
            }
            arguments[i] = sign.matches() ? sign.group(1).charAt(0) : Integer.parseInt(parts[i]);
        }
        return arguments;
    }

    private static Method ofTheFace(String name, int arguments) {
        for (Method method : WaxCopies.class.getDeclaredMethods()) {
            boolean ofTheFace = Modifier.isPublic(method.getModifiers());
            if (ofTheFace && method.getName().equals(name) && method.getParameterCount() == arguments) {
                return method;
            }
        }
        return null;
    }

    private void readToTheEnd() {
        if (inJava) {
            c.tell("a block without an end");
        }
        c.dueText("what of the face is shown", String.join(" ", shown), String.join(" ", face()));
        headed.addAll(List.of("NONE", "constructor"));
        c.dueText("what stands in the headings", String.join(" ", headed), String.join(" ", face()));
        System.out.println("ReadmeTest: " + blocks + " blocks, " + calls + " calls");
    }

    private static Set<String> face() {
        Set<String> face = new TreeSet<>();
        for (Method method : WaxCopies.class.getDeclaredMethods()) {
            if (Modifier.isPublic(method.getModifiers())) {
                face.add(method.getName());
            }
        }
        for (Field field : WaxCopies.class.getDeclaredFields()) {
            if (Modifier.isPublic(field.getModifiers())) {
                face.add(field.getName());
            }
        }
        for (Constructor<?> constructor : WaxCopies.class.getConstructors()) {
            face.add("constructor");
        }
        return face;
    }

    /** The files that the page names are there, and it names each test that .ci/run runs, and no other. */
    private static void filesAndTests(Checks c, String page) throws IOException {
        Set<String> named = new TreeSet<>();
        Matcher quoted = QUOTED.matcher(page.replaceAll("(?s)```.*?```", ""));
        while (quoted.find()) {
            String word = quoted.group(1);
            if (word.matches("[.\\w]+(/[.\\w]+)+")) {
                c.due("the file " + word + " is there (1 yes, 0 no)", Files.exists(Path.of(word)) ? 1 : 0, 1);
            } else if (word.matches("\\w+(Test|Sentences)")) {
                named.add(word);
            }
        }
        Set<String> there = new TreeSet<>();
        try (DirectoryStream<Path> files = Files.newDirectoryStream(Path.of("src/test/java"), "*{Test,?Sentences}.java")) {
            for (Path file : files) {
                there.add(file.getFileName().toString().replace(".java", ""));
            }
        }
        c.dueText("the tests that are named", String.join(" ", named), String.join(" ", there));
    }
}
