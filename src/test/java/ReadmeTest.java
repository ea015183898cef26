import java.lang.reflect.InvocationTargetException;
import java.lang.reflect.Method;
import java.nio.file.Files;
import java.nio.file.Path;
import java.util.HashMap;
import java.util.Map;
import java.util.regex.Matcher;
import java.util.regex.Pattern;

/** README.md tells every call in the document's words, and the answers that it shows are those of the class. */
final class ReadmeTest {
    private static final Pattern PROMISE = Pattern.compile("(?m)^`([^`]*?)(?: throws [^`]*)?`: (.*)$");
    private static final Pattern SHOWN =
            Pattern.compile("(?:int (\\w+) = )?x\\.(\\w+)\\((.*)\\);(?:\\s*// (\\w+)(?::.*)?)?");

    private final TrouserWash x = new TrouserWash();
    private final Map<String, Integer> named = new HashMap<>();

    public static void main(String[] args) throws Exception {
        Path project = Path.of(System.getProperty("project", "."));
        String readme = Files.readString(project.resolve("README.md"));
        String document = Files.readString(project.resolve("../shared/DOC.md"));
        everyCallIsTold(document, readme.replaceAll("\\s+", " "));
        new ReadmeTest().answersAreRight(readme);
        Check.done("ReadmeTest");
    }

    private static void everyCallIsTold(String document, String readme) {
        Matcher promise = PROMISE.matcher(document);
        int found = 0;
        while (promise.find()) {
            found++;
            String words = "- `" + promise.group(1) + "`: " + promise.group(2).trim();
            Check.is("README.md has '" + words + "'", readme.contains(words), true);
        }
        Check.is("promises of the document", found, 43);
    }

    private void answersAreRight(String readme) throws Exception {
        String example = readme.substring(readme.indexOf("```java") + 7);
        int shown = 0;
        for (String line : example.substring(0, example.indexOf("```")).split("\n")) {
            if (!line.isBlank() && !line.startsWith("TrouserWash x")) {
                Matcher call = SHOWN.matcher(line);
                Check.is(line + " is a call", call.matches(), true);
                answerIsRight(call);
                shown++;
            }
        }
        Check.is("many calls are shown", shown > 30, true);
    }

    private void answerIsRight(Matcher call) throws Exception {
        Method method = method(call.group(2));
        String[] words = call.group(3).isEmpty() ? new String[0] : call.group(3).split(", ");
        Object[] arguments = new Object[words.length];
        for (int i = 0; i < words.length; i++) {
            arguments[i] = named.containsKey(words[i]) ? named.get(words[i]) : Integer.decode(words[i]);
        }
        Object got;
        try {
            got = method.invoke(x, arguments);
        } catch (InvocationTargetException e) {
            got = e.getCause();
        }
        Check.is(call.group(), String.valueOf(got), String.valueOf(call.group(4)));
        if (call.group(1) != null && got instanceof Integer) {
            named.put(call.group(1), (Integer) got);
        }
    }

    private static Method method(String name) {
        for (Method one : TrouserWash.class.getMethods()) {
            if (one.getName().equals(name)) {
                return one;
            }
        }
        throw new IllegalArgumentException("README.md calls " + name + ", which is none");
    }
}
