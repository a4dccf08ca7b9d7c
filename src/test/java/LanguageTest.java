import java.io.IOException;
import java.lang.reflect.Constructor;
import java.lang.reflect.Field;
import java.lang.reflect.Method;
import java.lang.reflect.Modifier;
import java.nio.file.Files;
import java.nio.file.Path;
import java.util.ArrayList;
import java.util.List;
import java.util.Set;
import java.util.TreeSet;
import java.util.regex.Matcher;
import java.util.regex.Pattern;

/** Rules of ../shared/LANGUAGE.md that can be seen from the class and its source. */
public final class LanguageTest {
    private static final Path SOURCE = Path.of("src/main/java/PageServer.java");
    private static final Set<String> CONSTANT_TYPES = Set.of("int", "long", "boolean", "char", "String",
            "int[]", "long[]", "char[]", "byte[]");
    private static final Set<String> THROWN = Set.of("IllegalStateException", "IllegalArgumentException",
            "NoSuchElementException");

    public static void main(String[] args) {
        Check.run(LanguageTest::namesOfTheFace,
                LanguageTest::classesInside,
                LanguageTest::typesOfFields,
                LanguageTest::wordsOfTheLibrary,
                LanguageTest::staticFields,
                LanguageTest::exceptions,
                LanguageTest::howMuch,
                LanguageTest::lengthOfMethods,
                LanguageTest::constructors);
    }

    private static List<Class<?>> classes() {
        List<Class<?>> all = new ArrayList<>(List.of(PageServer.class.getDeclaredClasses()));
        all.add(PageServer.class);
        return all;
    }

    /** The source without its comments and texts. */
    private static String code() {
        try {
            return Files.readString(SOURCE).replaceAll("(?s)/\\*.*?\\*/", "").replaceAll("//.*", "")
                    .replaceAll("\"[^\"\n]*\"", "\"\"");
        } catch (IOException e) {
            throw new IllegalStateException(e);
        }
    }

    private static void has(String what, String pattern, boolean due) {
        Check.same(what, Pattern.compile(pattern).matcher(code()).find(), due);
    }

    private static void namesOfTheFace() {
        Check.of("LANGUAGE.md, rule 1", "No private method bears the name of a public one");
        Set<String> face = new TreeSet<>();
        for (Method method : PageServer.class.getDeclaredMethods()) {
            if (Modifier.isPublic(method.getModifiers())) {
                face.add(method.getName());
            }
        }
        for (Class<?> type : classes()) {
            for (Method method : type.getDeclaredMethods()) {
                boolean isFace = Modifier.isPublic(method.getModifiers());
                Check.same(method.toString(), face.contains(method.getName()), isFace);
            }
        }
    }

    private static void classesInside() {
        Check.of("LANGUAGE.md, rule 1", "the classes inside it, which are private or package-visible and static");
        for (Class<?> type : PageServer.class.getDeclaredClasses()) {
            int seen = type.getModifiers() & (Modifier.PUBLIC | Modifier.PROTECTED | Modifier.STATIC);
            Check.same(type.getName(), seen, Modifier.STATIC);
        }
        Check.of("LANGUAGE.md, rule 2", "no lambda, no method reference");
        has("->", "->", false);
        has("::", "::", false);
    }

    private static void typesOfFields() {
        Check.of("LANGUAGE.md, rule 3", "arrays of these and of your own classes, of one dimension");
        for (Class<?> type : classes()) {
            for (Field field : type.getDeclaredFields()) {
                Class<?> held = field.getType().isArray() ? field.getType().getComponentType() : field.getType();
                Check.same(field.toString(), held == int.class || held == boolean.class || held == String.class
                        || classes().contains(held), true);
            }
        }
    }

    private static void wordsOfTheLibrary() {
        Check.of("LANGUAGE.md, rule 4", "The library: only what stands here");
        Matcher imports = Pattern.compile("import .*").matcher(code());
        Check.same("an import", imports.find() ? imports.group() : "", "import java.util.NoSuchElementException;");
        Check.same("another one", imports.find(), false);
        has("a name with its package", "(?<!import )\\bjava\\.", false);
        Matcher calls = Pattern.compile("\\b(System|Math|Integer|Long|Arrays|Character|String)\\.(\\w+)").matcher(code());
        Set<String> seen = new TreeSet<>();
        while (calls.find()) {
            seen.add(calls.group());
        }
        Check.same("what is called", Set.of("Math.max", "Math.min", "System.arraycopy").containsAll(seen), true);
    }

    private static void staticFields() {
        Check.of("LANGUAGE.md, rule 5", "Static fields are final");
        for (Class<?> type : classes()) {
            for (Field field : type.getDeclaredFields()) {
                if (Modifier.isStatic(field.getModifiers())) {
                    Check.same(field.toString(), Modifier.isFinal(field.getModifiers())
                            && CONSTANT_TYPES.contains(field.getType().getSimpleName()), true);
                }
            }
        }
        has("a static initialiser block", "static\\s*\\{", false);
    }

    private static void exceptions() {
        Check.of("LANGUAGE.md, rule 6", "throw new E() or throw new E(\"a written text\")");
        Matcher thrown = Pattern.compile("\\bthrow\\b(.*)").matcher(code());
        int count = 0;
        while (thrown.find()) {
            Matcher form = Pattern.compile(" new (\\w+)\\((\"\")?\\);").matcher(thrown.group(1));
            Check.same(thrown.group(), form.matches() && THROWN.contains(form.group(1)), true);
            count++;
        }
        Check.same("some are thrown", count > 0, true);
        Check.of("LANGUAGE.md, rule 6", "No finally, no try with resources, no exception classes of your own");
        has("finally", "\\bfinally\\b", false);
        has("try with resources", "\\btry\\s*\\(", false);
        has("an exception class", "\\bextends\\s+\\w*(Exception|Error|Throwable)\\b", false);
        Check.of("LANGUAGE.md, rule 6", "No synchronized, assert");
        has("synchronized", "\\bsynchronized\\b", false);
        has("assert", "\\bassert\\b", false);
    }

    private static void howMuch() {
        Check.of("LANGUAGE.md, rule 11", "A method takes at most seven parameters");
        for (Class<?> type : classes()) {
            for (Method method : type.getDeclaredMethods()) {
                Check.same(method.toString(), method.getParameterCount() <= 7, true);
            }
        }
        Check.of("LANGUAGE.md, rule 11", "the file has at most some twelve classes");
        Check.same("classes", classes().size() <= 12, true);
        Check.of("LANGUAGE.md, rule 11", "a class some twenty fields beside its constants");
        for (Class<?> type : classes()) {
            int fields = 0;
            for (Field field : type.getDeclaredFields()) {
                fields += Modifier.isStatic(field.getModifiers()) ? 0 : 1;
            }
            Check.same(type + " has " + fields, fields <= 20, true);
        }
    }

    private static void lengthOfMethods() {
        Check.of("LANGUAGE.md, rule 11", "Methods stay short (some sixty lines)");
        Matcher method = Pattern.compile("(?m)^( {4}| {8})\\w[^\n;{}=]*\\([^;{}]*\\{\n(?:\\1 .*\n|\n)*\\1\\}").matcher(code());
        int count = 0;
        while (method.find()) {
            Check.same(method.group().lines().findFirst().orElse(""), method.group().lines().count() <= 60, true);
            count++;
        }
        int due = 0;
        for (Class<?> type : classes()) {
            due += type.getDeclaredMethods().length;
        }
        Check.same("all methods are looked at", count >= due, true);
    }

    private static void constructors() {
        Check.of("LANGUAGE.md, rule 12", "hands out nothing of the object that it makes");
        for (Class<?> type : classes()) {
            for (Constructor<?> constructor : type.getDeclaredConstructors()) {
                for (Class<?> given : constructor.getParameterTypes()) {
                    Check.same(constructor + " takes " + given, given == int.class || given == String.class, true);
                }
            }
        }
        has("an object in its own making", "\\(this\\b|, this\\b|= this;", false);
    }
}
