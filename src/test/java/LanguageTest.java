import java.io.DataInputStream;
import java.io.IOException;
import java.io.InputStream;
import java.lang.reflect.Constructor;
import java.lang.reflect.Field;
import java.lang.reflect.Method;
import java.lang.reflect.Modifier;
import java.nio.file.Files;
import java.nio.file.Path;
import java.util.ArrayList;
import java.util.Arrays;
import java.util.HashSet;
import java.util.List;
import java.util.Set;
import java.util.TreeSet;

/** The face as the document writes it, and what of LANGUAGE.md can be told from the class files and the text. */
public final class LanguageTest {
    private static final String I = "IndexOutOfBoundsException";
    private static final String A = "IllegalArgumentException";
    private static final String S = "IllegalStateException";

    /** Return, name, number of int arguments, exceptions. */
    private static final String[][] FACE = {
        {"int", "speak", "2", I, A}, {"int", "copy", "3", I, A}, {"int", "play", "1", I}, {"int", "shave", "1", I},
        {"int", "wind", "0"}, {"int", "sharpen", "0"}, {"int", "renew", "2", I, A}, {"int", "set", "1", A},
        {"int", "append", "1", A, S}, {"int", "clearBuffer", "0"}, {"int", "firstError", "0"}, {"int", "run", "0", A},
        {"int", "keep", "1", A}, {"int", "goBack", "1", A, S}, {"int", "undo", "0", S}, {"int", "trackOf", "2", I, A},
        {"int", "cylinderOf", "2", I, A}, {"int", "count", "1", A}, {"int", "setting", "0"}, {"int", "whyNot", "2", I, A},
        {"int", "ifCopied", "3", I, A}, {"int", "chain", "3", I, A}, {"int", "clearest", "0"}, {"int", "daughters", "1", I},
        {"float", "meanDepth", "0"}, {"double", "clearShare", "0"}, {"long", "digest", "0"},
    };

    /** Classes and methods of the library that the language leaves and that the program may use. */
    private static final Set<String> LIBRARY = Set.of(
        "java/lang/Object", "java/lang/Object.<init>", "java/lang/String", "java/lang/String.length",
        "java/lang/String.charAt", "java/lang/Math", "java/lang/Math.max", "java/lang/Math.min", "java/lang/System",
        "java/lang/System.arraycopy", "java/lang/IndexOutOfBoundsException", "java/lang/IndexOutOfBoundsException.<init>",
        "java/lang/IllegalArgumentException", "java/lang/IllegalArgumentException.<init>",
        "java/lang/IllegalStateException", "java/lang/IllegalStateException.<init>");

    private static final Checks c = new Checks("LanguageTest");

    public static void main(String[] args) throws IOException {
        List<Class<?>> classes = new ArrayList<>();
        classes.add(WaxCopies.class);
        classes.addAll(Arrays.asList(WaxCopies.class.getDeclaredClasses()));
        theFace();
        for (Class<?> one : classes) {
            membersOf(one);
            constantPoolOf(one);
        }
        must("at most twelve classes", classes.size() <= 12);
        theText(Files.readString(Path.of("src/main/java/WaxCopies.java")));
        c.end();
    }

    private static void must(String what, boolean holds) {
        c.due(what + " (1 yes, 0 no)", holds ? 1 : 0, 1);
    }

    private static void theFace() {
        int modifiers = WaxCopies.class.getModifiers();
        must("public and final", Modifier.isPublic(modifiers) && Modifier.isFinal(modifiers));
        Set<String> due = new TreeSet<>();
        for (String[] row : FACE) {
            due.add(String.join(" ", row));
        }
        due.add("constructor 0");
        due.add("NONE");
        Set<String> got = new TreeSet<>();
        for (Method method : WaxCopies.class.getDeclaredMethods()) {
            if (!Modifier.isPrivate(method.getModifiers())) {
                must(method.getName() + " is public, not static", method.getModifiers() == Modifier.PUBLIC);
                got.add(told(method));
            }
        }
        for (Constructor<?> constructor : WaxCopies.class.getDeclaredConstructors()) {
            must("the constructor is public", Modifier.isPublic(constructor.getModifiers()));
            got.add("constructor " + constructor.getParameterCount());
        }
        for (Field field : WaxCopies.class.getDeclaredFields()) {
            if (!Modifier.isPrivate(field.getModifiers())) {
                got.add(field.getName());
            }
        }
        if (!due.equals(got)) {
            c.tell("the face is " + got + ", due is " + due);
        }
    }

    private static String told(Method method) {
        StringBuilder text = new StringBuilder(method.getReturnType().getName());
        text.append(' ').append(method.getName()).append(' ').append(method.getParameterCount());
        for (Class<?> type : method.getParameterTypes()) {
            must(method.getName() + " takes ints", type == int.class);
        }
        for (Class<?> type : method.getExceptionTypes()) {
            text.append(' ').append(type.getSimpleName());
        }
        return text.toString();
    }

    private static void membersOf(Class<?> one) {
        Set<String> face = new HashSet<>();
        for (String[] row : FACE) {
            face.add(row[1]);
        }
        int own = 0;
        for (Field field : one.getDeclaredFields()) {
            boolean constant = Modifier.isStatic(field.getModifiers());
            own += constant ? 0 : 1;
            must(field + " is final, if it is static", !constant || Modifier.isFinal(field.getModifiers()));
            must(field + " is a constant's type, if it is static",
                !constant || field.getType().isPrimitive() || field.getType() == String.class);
        }
        must(one + " has some twenty fields at most", own <= 20);
        for (Method method : one.getDeclaredMethods()) {
            boolean ofTheFace = Modifier.isPublic(method.getModifiers()) && one == WaxCopies.class;
            must(method + " bears no name of the face", ofTheFace || !face.contains(method.getName()));
            must(method + " takes at most seven", method.getParameterCount() <= 7);
            must(method + " is no equals, hashCode, toString",
                !Set.of("equals", "hashCode", "toString").contains(method.getName()));
            must(method + " is written, not made by the compiler", !method.isSynthetic());
        }
        if (one != WaxCopies.class) {
            must(one + " is static", Modifier.isStatic(one.getModifiers()));
            must(one + " is private or package-visible", !Modifier.isPublic(one.getModifiers())
                && !Modifier.isProtected(one.getModifiers()));
        }
    }

    /** What a class file names: its classes and methods of the library, and nothing that is made at run time. */
    private static void constantPoolOf(Class<?> one) throws IOException {
        String file = one.getName() + ".class";
        try (InputStream raw = LanguageTest.class.getResourceAsStream(file); DataInputStream in = new DataInputStream(raw)) {
            in.readInt();
            in.readInt();
            int count = in.readUnsignedShort();
            Object[] pool = new Object[count];
            for (int i = 1; i < count; i++) {
                int tag = in.readUnsignedByte();
                pool[i] = entry(in, tag);
                must(file + " has no lambda, no joining by + and no switch made at run time", tag != 17 && tag != 18);
                i += tag == 5 || tag == 6 ? 1 : 0;
            }
            for (Object entry : pool) {
                String named = entry instanceof int[] pair ? named(pool, pair) : "";
                if (named.startsWith("java") && !LIBRARY.contains(named)) {
                    c.tell(file + " uses " + named);
                }
            }
        }
    }

    private static Object entry(DataInputStream in, int tag) throws IOException {
        switch (tag) {
            case 1:
                return in.readUTF();
            case 3: case 4:
                in.readInt();
                return null;
            case 5: case 6:
                in.readLong();
                return null;
            case 7: case 8: case 16: case 19: case 20:
                return new int[] {tag, in.readUnsignedShort()};
            case 15:
                in.readUnsignedByte();
                in.readUnsignedShort();
                return null;
            default:
                return new int[] {tag, in.readUnsignedShort(), in.readUnsignedShort()};
        }
    }

    private static String named(Object[] pool, int[] pair) {
        if (pair[0] == 7) {
            return (String) pool[pair[1]];
        }
        if (pair[0] == 9 || pair[0] == 10 || pair[0] == 11) {
            int[] owner = (int[]) pool[pair[1]];
            int[] name = (int[]) pool[pair[2]];
            return pool[owner[1]] + "." + pool[name[1]];
        }
        return "";
    }

    private static void theText(String text) {
        for (int i = 0; i < text.length(); i++) {
            if (text.charAt(i) > 126 || text.charAt(i) < 32 && text.charAt(i) != '\n') {
                c.tell("the sign " + (int) text.charAt(i) + " stands in the text");
            }
        }
        String bare = text.replaceAll("(?s)/\\*.*?\\*/", " ").replaceAll("//[^\n]*", " ")
            .replaceAll("\"(\\\\.|[^\"\\\\])*\"", "\"\"").replaceAll("'(\\\\.|[^'\\\\])'", "' '");
        Set<String> words = new HashSet<>(Arrays.asList(bare.split("[^A-Za-z0-9_]+")));
        for (String word : List.of("package", "import", "try", "catch", "finally", "assert", "synchronized", "native",
            "volatile", "transient", "var", "record", "instanceof", "Object", "main")) {
            must("no " + word + " in the text", !words.contains(word));
        }
        int end = bare.indexOf('{');
        must("one class in the file", bare.substring(0, end).trim().equals("public final class WaxCopies"));
        shortMethods(text);
    }

    /** A method begins with a line that is indented by 4 or 8 and ends in "{", and ends with "}" at the same place. */
    private static void shortMethods(String text) {
        String[] lines = text.split("\n");
        for (int i = 0; i < lines.length; i++) {
            if (lines[i].matches("( {4}| {8})[a-z].*\\).*\\{")) {
                String close = lines[i].replaceAll("^( *).*", "$1") + "}";
                int length = 1;
                while (i + length < lines.length && !lines[i + length].equals(close)) {
                    length++;
                }
                must("some sixty lines at most: " + lines[i].trim(), length <= 60);
            }
        }
    }
}
