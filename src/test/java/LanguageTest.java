import java.nio.file.Files;
import java.nio.file.Path;
import java.util.TreeSet;
import java.util.regex.Matcher;
import java.util.regex.Pattern;

/** What of LANGUAGE.md can be seen in the program's text without understanding it. */
final class LanguageTest {
    private static final String[] NEVER = {"->", "::", "\\bcatch\\b", "\\bfinally\\b", "\\bsynchronized\\b",
        "\\bassert\\b", "Exact\\b", "\\bObject\\b", "\\bSystem\\.(?!arraycopy)", "\\bnull\\b", "\\bdouble\\b",
        "\\bfloat\\b", "\\bpackage\\b", "\\bprotected\\b", "\\blambda\\b", "\\bvar\\b", "static \\{",
        "\\bhashCode\\b", "\\btoString\\b", "\\bwhile \\(true\\)", "for \\(;;\\)", "\\[\\]\\[\\]\\["};

    public static void main(String[] args) throws Exception {
        Path file = Path.of(System.getProperty("project", "."), "src", "main", "java", "TrouserWash.java");
        String text = Files.readString(file);
        for (int i = 0; i < text.length(); i++) {
            if (text.charAt(i) > 126) {
                Check.is("a sign beyond 126 at " + i, text.charAt(i), ' ');
            }
        }
        String code = text.replaceAll("(?s)/\\*.*?\\*/", "").replaceAll("//.*", "").replaceAll("\"[^\"]*\"", "\"\"");
        for (String never : NEVER) {
            Check.is("has " + never, Pattern.compile(never).matcher(code).find(), false);
        }
        Check.is("imports", all(code, "(?m)^import (.*);"), "[java.util.ArrayList, java.util.Arrays, "
                + "java.util.NoSuchElementException]");
        Check.is("exceptions", all(code, "throw new (\\w+)\\("), "[IllegalArgumentException, IllegalStateException, "
                + "IndexOutOfBoundsException, NoSuchElementException, UnsupportedOperationException]");
        Check.is("of Math", all(code, "Math\\.(\\w+)"), "[floorMod, max, min]");
        Check.is("of Arrays", all(code, "Arrays\\.(\\w+)\\("), "[fill]");
        Check.is("static fields are final or methods", all(code, "(static (?!final)\\w+(?:\\[\\])* \\w+ ?[=;])"), "[]");
        Matcher classes = Pattern.compile("\\bclass \\w+").matcher(code);
        int found = 0;
        while (classes.find()) {
            found++;
        }
        Check.is("at most some twelve classes inside", found <= 13, true);
        methodsStayShort(code);
        Check.done("LanguageTest");
    }

    private static String all(String code, String pattern) {
        TreeSet<String> found = new TreeSet<>();
        Matcher matcher = Pattern.compile(pattern).matcher(code);
        while (matcher.find()) {
            found.add(matcher.group(1));
        }
        return found.toString();
    }

    /** From a line that opens a method to the line that closes it at the same depth. */
    private static void methodsStayShort(String code) {
        String[] lines = code.split("\n");
        for (int i = 0; i < lines.length; i++) {
            String depth = lines[i].replaceAll("\\S.*", "");
            if (lines[i].endsWith("{") && lines[i].contains("(") && depth.length() <= 8 && !lines[i].contains("=")) {
                int end = i;
                while (end < lines.length && !lines[end].equals(depth + "}")) {
                    end++;
                }
                Check.is(lines[i].trim() + " has at most sixty lines", end - i <= 60, true);
            }
        }
    }
}
