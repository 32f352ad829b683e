import java.lang.reflect.Constructor;
import java.lang.reflect.Field;
import java.lang.reflect.Method;
import java.lang.reflect.Modifier;
import java.nio.charset.StandardCharsets;
import java.nio.file.Files;
import java.nio.file.Path;
import java.util.Arrays;
import java.util.Set;
import java.util.TreeSet;
import java.util.regex.Matcher;
import java.util.regex.Pattern;

/** The face of the class, and the rules of LANGUAGE.md that can be told from the source or by reflection. */
public final class FaceTest {
    private static final String[] FACE = {
        "client 2", "chapter 3", "phrase 4", "place 3", "lift 1", "lend 4", "buyBack 1", "sell 3", "pass 1",
        "set 2", "clientOf 2", "chapterOf 2", "phraseOf 2", "find 3", "on 3", "tells 2", "alike 1", "count 1",
        "coming 2", "best 1", "keep 0", "restore 0", "undo 0", "type 1", "clearText 0", "fault 1", "play 0",
    };
    private static final String[] FORBIDDEN = {
        "throw", "throws", "try", "catch", "synchronized", "assert", "import", "package", "enum", "protected",
        "double", "float", "Object", "Exception", "Thread", "System", "instanceof", "hashCode", "equals", "toString",
    };

    public static void main(String[] args) throws Exception {
        constants();
        members();
        nestedClasses();
        source();
        Checks.finish("FaceTest");
    }

    private static void constants() {
        Checks.due(1, "INVALID_ARGUMENT", LentPhrases.INVALID_ARGUMENT, -100001);
        Checks.due(1, "NOT_POSSIBLE", LentPhrases.NOT_POSSIBLE, -100002);
        Checks.due(1, "LIMIT_REACHED", LentPhrases.LIMIT_REACHED, -100003);
        Checks.due(1, "NOT_FOUND", LentPhrases.NOT_FOUND, -100004);
    }

    private static void members() {
        Set<String> due = new TreeSet<>(Arrays.asList(FACE));
        Set<String> seen = new TreeSet<>();
        for (Method method : LentPhrases.class.getDeclaredMethods()) {
            if (Modifier.isPrivate(method.getModifiers())) {
                continue;
            }
            seen.add(method.getName() + " " + method.getParameterCount());
            Checks.holds(method + " is public and of the object",
                Modifier.isPublic(method.getModifiers()) && !Modifier.isStatic(method.getModifiers()));
            Checks.holds(method + " answers an int", method.getReturnType() == int.class);
        }
        Checks.holds("the face is " + due + ", not " + seen, due.equals(seen));
        int constants = 0;
        for (Field field : LentPhrases.class.getDeclaredFields()) {
            if (!Modifier.isPrivate(field.getModifiers())) {
                constants++;
            }
        }
        Checks.due(1, "constants", constants, 4);
        Constructor<?>[] constructors = LentPhrases.class.getDeclaredConstructors();
        Checks.due(1, "constructors", constructors.length, 1);
        Checks.due(1, "parameters of the constructor", constructors[0].getParameterCount(), 0);
        Checks.holds("final", Modifier.isFinal(LentPhrases.class.getModifiers()));
    }

    private static void nestedClasses() {
        Set<String> names = new TreeSet<>();
        for (String row : FACE) {
            names.add(row.substring(0, row.indexOf(' ')));
        }
        Class<?>[] nested = LentPhrases.class.getDeclaredClasses();
        Checks.holds("at most twelve classes", nested.length < 12);
        for (Class<?> one : nested) {
            Checks.holds(one + " is private and static",
                Modifier.isPrivate(one.getModifiers()) && Modifier.isStatic(one.getModifiers()));
            for (Method method : one.getDeclaredMethods()) {
                Checks.holds(method + " bears a name of its own", !names.contains(method.getName()));
                Checks.holds(method + " takes at most seven", method.getParameterCount() <= 7);
            }
            Checks.holds(one + " has some twenty fields", one.getDeclaredFields().length <= 20);
        }
        for (Method method : LentPhrases.class.getDeclaredMethods()) {
            boolean mine = Modifier.isPrivate(method.getModifiers());
            Checks.holds(method + " bears a name of its own", !mine || !names.contains(method.getName()));
        }
    }

    private static void source() throws Exception {
        byte[] bytes = Files.readAllBytes(Path.of("src/main/java/LentPhrases.java"));
        String text = new String(bytes, StandardCharsets.ISO_8859_1);
        for (byte sign : bytes) {
            if (sign < 0) {
                Checks.holds("all signs are 1 to 127", false);
            }
        }
        String code = text.replaceAll("(?s)/\\*.*?\\*/", " ").replaceAll("//[^\n]*", " ");
        for (String word : FORBIDDEN) {
            Checks.holds("no " + word, !Pattern.compile("\\b" + word + "\\b").matcher(code).find());
        }
        Checks.holds("no lambda", !code.contains("->"));
        Checks.holds("no method reference", !code.contains("::"));
        Checks.holds("no text is made", !code.contains("\""));
        Matcher made = Pattern.compile("new (\\w+)").matcher(code);
        Set<String> known = new TreeSet<>(Arrays.asList("State", "History", "Text", "Reading", "Order", "Client",
            "Chapter", "Phrase", "int", "char"));
        while (made.find()) {
            Checks.holds("new " + made.group(1) + " is one of ours", known.contains(made.group(1)));
        }
    }
}
