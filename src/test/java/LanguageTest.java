import java.lang.reflect.Constructor;
import java.lang.reflect.Field;
import java.lang.reflect.Method;
import java.lang.reflect.Modifier;
import java.nio.charset.StandardCharsets;
import java.nio.file.Files;
import java.nio.file.Path;
import java.util.Arrays;
import java.util.HashSet;
import java.util.List;
import java.util.Set;
import java.util.regex.Matcher;
import java.util.regex.Pattern;

// What of LANGUAGE.md can be seen without reading with care: the face, the words that are
// not to stand in the source, how long methods are. Run from the project's folder.
public final class LanguageTest {
    private static final Path SOURCE = Path.of("src/main/java/WordTerminator.java");
    private static final String FACE = "signs type wipe fault rule drop side info ring size enter entry read sound value "
        + "stage back stages kept swap ends search auto word step run letter measure sheet lose lay get copy write count "
        + "digest";
    // How many numbers each of these takes, in the same order; all are ints.
    private static final int[] TAKES = {1, 1, 0, 1, 0, 1, 3, 2, 1, 1, 4, 3, 2, 0, 4, 0, 0, 2, 4, 1, 0, 1, 1, 0, 0, 1, 1, 1, 3,
        1, 4, 3, 5, 1, 1, 0};
    private static final String[] CONSTANTS = {"NONE", "BAD", "NOT", "FULL", "OVER"};
    private static final String[] BARRED = {"throw", "throws", "try", "catch", "finally", "synchronized", "assert",
        "protected", "package", "->", "::", "Exact(", "System.out", "System.nano", "System.current", "Object",
        "hashCode", "toString", "volatile", "native", "while (true)", "for (;;)"};

    public static void main(String[] args) throws Exception {
        String source = Files.readString(SOURCE, StandardCharsets.US_ASCII);
        String code = source.replaceAll("//[^\n]*", "");
        face();
        takes();
        constants();
        barredWords(code);
        madeInConstructors(code);
        classesInside();
        names();
        lengths(code);
        Check.end();
    }

    private static void face() {
        Class<?> type = WordTerminator.class;
        Check.holds("public and final", Modifier.isPublic(type.getModifiers()) && Modifier.isFinal(type.getModifiers()));
        Set<String> told = new HashSet<>(List.of(FACE.split(" ")));
        Set<String> open = new HashSet<>();
        for (Method method : type.getDeclaredMethods()) {
            if (!Modifier.isPrivate(method.getModifiers())) {
                Check.holds(method + " is public", Modifier.isPublic(method.getModifiers()));
                Check.holds(method.getName() + " stands once", open.add(method.getName()));
                Class<?> answer = method.getName().equals("digest") ? long.class : int.class;
                Check.holds(method + " answers as told", method.getReturnType() == answer);
            }
        }
        Check.holds("the face is that of the document: " + open, open.equals(told));
        for (Field field : type.getDeclaredFields()) {
            boolean constant = List.of(CONSTANTS).contains(field.getName());
            Check.holds(field + " is private", constant == !Modifier.isPrivate(field.getModifiers()));
        }
        Constructor<?>[] constructors = type.getDeclaredConstructors();
        Check.due("constructors", constructors.length, 1);
        Check.due("what the constructor takes", constructors[0].getParameterCount(), 0);
        Check.holds("public", Modifier.isPublic(constructors[0].getModifiers()));
    }

    private static void takes() throws Exception {
        String[] names = FACE.split(" ");
        Check.due("calls of the face", names.length, TAKES.length);
        for (int k = 0; k < names.length; k++) {
            Class<?>[] types = new Class<?>[TAKES[k]];
            Arrays.fill(types, int.class);
            Check.holds(names[k] + " is no static one", !Modifier.isStatic(
                WordTerminator.class.getMethod(names[k], types).getModifiers()));
        }
    }

    private static void constants() throws Exception {
        for (int k = 0; k < CONSTANTS.length; k++) {
            Field field = WordTerminator.class.getField(CONSTANTS[k]);
            int wanted = Modifier.PUBLIC | Modifier.STATIC | Modifier.FINAL;
            Check.due(CONSTANTS[k] + " is public, static and final", field.getModifiers(), wanted);
            Check.holds(CONSTANTS[k] + " is an int", field.getType() == int.class);
            Check.due(CONSTANTS[k], field.getInt(null), -1 - k);
        }
    }

    // All calls of a run share one room, so fields and constructors alone make objects.
    private static void madeInConstructors(String code) {
        String end = "";
        for (String line : code.split("\n")) {
            Matcher begin = Pattern.compile("( +)(public )?[A-Z]\\w*\\([^()]*\\) \\{").matcher(line);
            if (begin.matches()) {
                end = begin.group(1) + "}";
            } else if (line.equals(end)) {
                end = "";
            }
            boolean field = line.matches("(    |        )(private |final )[^()]* = new .*");
            boolean makes = Pattern.compile("\\b(new|clone|copyOf|copyOfRange)\\b").matcher(line).find();
            Check.holds("made in a field or constructor: " + line, !makes || field || !end.isEmpty());
        }
    }

    private static void barredWords(String code) {
        for (String barred : BARRED) {
            boolean isWord = Character.isLetter(barred.charAt(0)) && Character.isLetter(barred.charAt(barred.length() - 1));
            String pattern = isWord ? "\\b" + barred + "\\b" : Pattern.quote(barred);
            Check.holds("no " + barred, !Pattern.compile(pattern).matcher(code).find());
        }
        Matcher imports = Pattern.compile("import\\s+([\\w.*]+)").matcher(code);
        while (imports.find()) {
            boolean listed = Set.of("java.util.Arrays", "java.util.ArrayList", "java.util.List").contains(imports.group(1));
            Check.holds("import " + imports.group(1), listed);
        }
    }

    private static void classesInside() {
        Class<?>[] inside = WordTerminator.class.getDeclaredClasses();
        Check.holds("at most twelve classes", inside.length < 12);
        fields(WordTerminator.class);
        for (Class<?> type : inside) {
            Check.holds(type + " is static", Modifier.isStatic(type.getModifiers()));
            Check.holds(type + " is not open", !Modifier.isPublic(type.getModifiers()));
            fields(type);
        }
    }

    private static void fields(Class<?> type) {
        int own = 0;
        for (Field field : type.getDeclaredFields()) {
            if (Modifier.isStatic(field.getModifiers())) {
                Check.holds(field + " is final", Modifier.isFinal(field.getModifiers()));
            } else {
                own++;
            }
        }
        Check.holds(type + " has at most twenty fields", own <= 20);
    }

    private static void names() {
        Set<String> open = new HashSet<>(List.of(FACE.split(" ")));
        for (Method method : WordTerminator.class.getDeclaredMethods()) {
            boolean hidden = Modifier.isPrivate(method.getModifiers());
            Check.holds(method + " bears no name of the face", !hidden || !open.contains(method.getName()));
            Check.holds(method + " takes at most seven", method.getParameterCount() <= 7);
        }
        for (Class<?> type : WordTerminator.class.getDeclaredClasses()) {
            for (Method method : type.getDeclaredMethods()) {
                Check.holds(method + " bears no name of the face", !open.contains(method.getName()));
                Check.holds(method + " takes at most seven", method.getParameterCount() <= 7);
            }
        }
    }

    // A method begins with a line that ends in ") {" at the depth of members, and ends at its own depth.
    private static void lengths(String code) {
        String[] lines = code.split("\n");
        for (int from = 0; from < lines.length; from++) {
            Matcher begin = Pattern.compile("^(    |        )(\\w[^=;]*\\) \\{)$").matcher(lines[from]);
            if (begin.matches() && !begin.group(2).matches("(if|for|while|switch|else).*")) {
                int to = from;
                while (to < lines.length && !lines[to].equals(begin.group(1) + "}")) {
                    to++;
                }
                Check.holds(begin.group(2) + " has at most sixty lines", to - from < 60);
            }
        }
    }
}
