import java.lang.reflect.Constructor;
import java.lang.reflect.Field;
import java.lang.reflect.Member;
import java.lang.reflect.Method;
import java.lang.reflect.Modifier;
import java.nio.file.Files;
import java.nio.file.Path;
import java.util.ArrayList;
import java.util.Arrays;
import java.util.List;
import java.util.TreeSet;
import java.util.regex.Matcher;
import java.util.regex.Pattern;

/** The document's face is there, whole, and nothing else is to be seen of the class (LANGUAGE.md, rules 1 and 5). */
final class FaceTest {
    public static void main(String[] args) throws Exception {
        Path document = Path.of(System.getProperty("project", "."), "..", "shared", "DOC.md");
        TreeSet<String> due = new TreeSet<>();
        Matcher line = Pattern.compile("(?m)^    public (\\w+) (\\w+)\\((.*?)\\)(?: throws (.*))?;$")
                .matcher(Files.readString(document));
        while (line.find()) {
            due.add(told(line.group(1), line.group(2), types(line.group(3)), exceptions(line.group(4))));
        }
        Check.is("methods of the document", due.size(), 42);
        Check.is("methods", methods(), due);
        constructorsAndFields();
        namesOfPrivateMethods();
        Check.done("FaceTest");
    }

    private static String told(String type, String name, List<String> parameters, List<String> exceptions) {
        return type + " " + name + parameters + exceptions;
    }

    private static List<String> types(String parameters) {
        List<String> types = new ArrayList<>();
        for (String one : parameters.split(", ")) {
            if (!one.isEmpty()) {
                types.add(one.split(" ")[0]);
            }
        }
        return types;
    }

    private static List<String> exceptions(String names) {
        return names == null ? List.of() : Arrays.asList(names.split(", "));
    }

    private static List<String> names(Class<?>[] classes) {
        List<String> names = new ArrayList<>();
        for (Class<?> one : classes) {
            names.add(one.getSimpleName());
        }
        return names;
    }

    private static boolean isPrivate(Member one) {
        return Modifier.isPrivate(one.getModifiers()) || one.isSynthetic();
    }

    private static TreeSet<String> methods() {
        TreeSet<String> found = new TreeSet<>();
        for (Method one : TrouserWash.class.getDeclaredMethods()) {
            if (!isPrivate(one)) {
                Check.is(one + " is public alone", one.getModifiers(), Modifier.PUBLIC);
                found.add(told(one.getReturnType().getSimpleName(), one.getName(), names(one.getParameterTypes()),
                        names(one.getExceptionTypes())));
            }
        }
        return found;
    }

    private static void constructorsAndFields() throws Exception {
        Check.is("modifiers", TrouserWash.class.getModifiers(), Modifier.PUBLIC | Modifier.FINAL);
        Constructor<?>[] constructors = TrouserWash.class.getDeclaredConstructors();
        Check.is("constructors", constructors.length, 1);
        Check.is("the constructor", constructors[0].toString(), "public TrouserWash()");
        for (Field one : TrouserWash.class.getDeclaredFields()) {
            Check.is(one + " is hidden", isPrivate(one), !one.getName().equals("NONE"));
        }
        Field none = TrouserWash.class.getField("NONE");
        Check.is("NONE", none.toString(), "public static final int TrouserWash.NONE");
    }

    /** Neither those of the class nor those of the classes inside it. */
    private static void namesOfPrivateMethods() {
        TreeSet<String> face = new TreeSet<>();
        for (Method one : TrouserWash.class.getMethods()) {
            face.add(one.getName());
        }
        List<Method> hidden = new ArrayList<>();
        for (Method one : TrouserWash.class.getDeclaredMethods()) {
            if (isPrivate(one)) {
                hidden.add(one);
            }
        }
        for (Class<?> inside : TrouserWash.class.getDeclaredClasses()) {
            int modifiers = inside.getModifiers();
            Check.is(inside + " is private and static", Modifier.isPrivate(modifiers) && Modifier.isStatic(modifiers),
                    true);
            hidden.addAll(Arrays.asList(inside.getDeclaredMethods()));
        }
        for (Method one : hidden) {
            Check.is(one + " bears a name of the face", face.contains(one.getName()), false);
            Check.is(one + " has at most seven parameters", one.getParameterCount() <= 7, true);
        }
    }
}
