import java.io.IOException;
import java.lang.reflect.Method;
import java.nio.file.Files;
import java.nio.file.Path;
import java.util.ArrayList;
import java.util.List;
import java.util.regex.Matcher;
import java.util.regex.Pattern;

/** What README.md says of the class: the answers in its examples, its constants, and that it has each call. */
public final class ReadmeTest {
    private static final Path README = Path.of("README.md");
    private static final Path DOCUMENT = Path.of("../shared/DOC.md");
    private static final Pattern EXAMPLE = Pattern.compile("(?s)```java\n(.*?)```");
    private static final Pattern TYPED = Pattern.compile("for \\(char sign : \"([^\"]*)\"\\.toCharArray\\(\\)\\) \\{");
    private static final Pattern CALL = Pattern.compile("x\\.(\\w+)\\(([-\\d, ]*)\\);\\s+// (-?\\d+)(:.*)?");
    private static final Pattern FACE = Pattern.compile("public int (\\w+)\\(([^)]*)\\);");
    private static final Pattern CONSTANT = Pattern.compile("`([A-Z_]+)` = (-\\d+)");

    public static void main(String[] args) throws Exception {
        String readme = Files.readString(README);
        examples(readme);
        calls(readme);
        constants(readme);
        Checks.finish("ReadmeTest");
    }

    private static void examples(String readme) throws ReflectiveOperationException {
        Matcher example = EXAMPLE.matcher(readme);
        int found = 0;
        while (example.find()) {
            String[] lines = example.group(1).split("\n");
            Checks.holds("an example begins with an object", lines[0].equals("LentPhrases x = new LentPhrases();"));
            LentPhrases x = new LentPhrases();
            for (int i = 1; i < lines.length; i++) {
                line(x, lines[i].strip());
            }
            found++;
        }
        Checks.holds("README.md has examples", found > 0);
    }

    private static void line(LentPhrases x, String line) throws ReflectiveOperationException {
        Matcher typed = TYPED.matcher(line);
        Matcher call = CALL.matcher(line);
        if (typed.matches()) {
            Checks.type(x, typed.group(1));
        } else if (call.matches()) {
            Checks.due(0, "README.md: " + line, answer(x, call.group(1), call.group(2)),
                Integer.parseInt(call.group(3)));
        } else {
            Checks.holds("README.md: " + line, line.equals("x.type(sign);") || line.equals("}"));
        }
    }

    private static int answer(LentPhrases x, String name, String numbers) throws ReflectiveOperationException {
        List<Object> arguments = new ArrayList<>();
        List<Class<?>> types = new ArrayList<>();
        if (!numbers.isEmpty()) {
            for (String number : numbers.split(", ")) {
                arguments.add(Integer.valueOf(number));
                types.add(int.class);
            }
        }
        Method method = LentPhrases.class.getMethod(name, types.toArray(new Class<?>[0]));
        return (Integer) method.invoke(x, arguments.toArray());
    }

    private static void calls(String readme) throws IOException {
        Matcher face = FACE.matcher(Files.readString(DOCUMENT));
        int found = 0;
        while (face.find()) {
            String call = face.group(1) + "(" + face.group(2).replace("int ", "") + ")";
            Checks.holds("README.md has `" + call + "`", readme.contains("`" + call + "`"));
            found++;
        }
        Checks.holds("the document has calls", found > 0);
    }

    private static void constants(String readme) throws ReflectiveOperationException {
        Matcher constant = CONSTANT.matcher(readme);
        int found = 0;
        while (constant.find()) {
            Checks.due(0, "README.md: " + constant.group(1), Integer.parseInt(constant.group(2)),
                LentPhrases.class.getField(constant.group(1)).getInt(null));
            found++;
        }
        Checks.holds("README.md has the constants", found == 4);
    }
}
