import java.io.IOException;
import java.nio.file.Files;
import java.nio.file.Path;
import java.util.ArrayList;
import java.util.BitSet;
import java.util.LinkedHashMap;
import java.util.List;
import java.util.Map;

/**
 * Runs tests by sentence. A test is named by a heading of ../shared/DOC.md and by the words under it
 * that it holds the program to; words that do not stand there, and sentences of the terms and
 * promises that no test names, are told as wrong.
 */
final class Sentences {
    interface Test {
        void on(Checks c);
    }

    private static final Path DOCUMENT = Path.of("..", "shared", "DOC.md");

    private final Checks c;
    private final Map<String, String> texts = new LinkedHashMap<>();
    private final Map<String, BitSet> named = new LinkedHashMap<>();
    private String heading = "";
    private int tests = 0;

    Sentences(String name) throws IOException {
        c = new Checks(name);
        if (Files.isReadable(DOCUMENT)) {
            read(Files.readAllLines(DOCUMENT));
        } else {
            System.out.println(name + ": " + DOCUMENT + " is not there, so the names of the tests are not looked up");
        }
    }

    private void read(List<String> lines) {
        boolean code = false;
        String at = "";
        for (String line : lines) {
            code ^= line.startsWith("```");
            if (line.startsWith("#") || line.matches("[A-Z][a-z, ]*")) {
                at = line.replaceFirst("^#+ ", "");
                texts.put(at, "");
            } else if (!code) {
                texts.merge(at, line + "\n", String::concat);
            }
        }
    }

    /** The tests from here on are named by words under this heading. */
    void under(String title) {
        heading = title;
        if (!texts.isEmpty() && !texts.containsKey(title)) {
            c.within(title);
            c.tell("there is no such heading in the document");
        }
    }

    void test(String words, Test test) {
        tests++;
        c.within(heading + ": \"" + words + "\"");
        name(words);
        int before = c.made();
        try {
            test.on(c);
        } catch (RuntimeException e) {
            c.tell("ended by " + e);
        }
        if (c.made() == before) {
            c.tell("the test checks nothing");
        }
    }

    /** Words that tell nothing which a call could show. */
    void nothingToTest(String words) {
        c.within(heading + ": \"" + words + "\"");
        name(words);
    }

    private void name(String words) {
        String text = texts.getOrDefault(heading, "");
        BitSet places = named.computeIfAbsent(heading, any -> new BitSet());
        int at = text.indexOf(words);
        if (at < 0 && !texts.isEmpty()) {
            c.tell("these words do not stand there");
        }
        for (; at >= 0; at = text.indexOf(words, at + 1)) {
            places.set(at, at + words.length());
        }
    }

    void end() {
        List<String> titles = new ArrayList<>(texts.keySet());
        int last = titles.indexOf("Not promised");
        for (int i = titles.indexOf("Terms"); i >= 0 && i < last; i++) {
            tellUnnamed(titles.get(i));
        }
        c.within(tests + " tests");
        c.end();
    }

    /** A sentence ends with its line, or with a point or a semicolon and a blank. */
    private void tellUnnamed(String title) {
        String text = texts.get(title);
        BitSet places = named.getOrDefault(title, new BitSet());
        c.within(title);
        int start = 0;
        for (int i = 0; i < text.length(); i++) {
            boolean endsHere = text.charAt(i) == '\n' || text.charAt(i) == ' ' && i > 0 && ".;".indexOf(text.charAt(i - 1)) >= 0;
            if (endsHere) {
                String sentence = text.substring(start, i).trim();
                int next = places.nextSetBit(start);
                if (!sentence.isEmpty() && (next < 0 || next >= i)) {
                    c.tell("no test is named by: " + sentence);
                }
                start = i + 1;
            }
        }
    }
}
