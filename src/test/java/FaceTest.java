import java.lang.reflect.Constructor;
import java.lang.reflect.Field;
import java.lang.reflect.Method;
import java.lang.reflect.Modifier;
import java.util.TreeSet;

/** The public face is the document's, and nothing else can be seen. */
public final class FaceTest {
    public static void main(String[] args) {
        Check.run(FaceTest::asTheDocumentSays);
    }

    private static void asTheDocumentSays() {
        Check.of("The public face", "public final class PageServer");
        Check.same("class", Modifier.toString(PageServer.class.getModifiers()), "public final");
        Check.same("NONE", PageServer.NONE, -1);
        Check.same("constructors", constructors(), "[public PageServer()]");
        Check.same("fields", fields(), "[public static final int PageServer.NONE]");
        TreeSet<String> due = new TreeSet<>();
        due.add("public int PageServer.page(int,int,int,int) throws "
                + "java.lang.IllegalArgumentException,java.lang.IllegalStateException");
        due.add("public boolean PageServer.feed(int,int)");
        due.add("public void PageServer.restart()");
        due.add("public int PageServer.waiting()");
        due.add("public int PageServer.out(int) throws java.util.NoSuchElementException");
        due.add("public void PageServer.take(int)");
        due.add("public int PageServer.away()");
        due.add("public int PageServer.about(int)");
        due.add("public int PageServer.stream(int,int) throws java.util.NoSuchElementException");
        due.add("public int PageServer.entry(int,int,int) throws java.util.NoSuchElementException");
        Check.same("methods", methods(), due.toString());
    }

    private static String constructors() {
        TreeSet<String> seen = new TreeSet<>();
        for (Constructor<?> one : PageServer.class.getDeclaredConstructors()) {
            seen.add(one.toString());
        }
        return seen.toString();
    }

    private static String fields() {
        TreeSet<String> seen = new TreeSet<>();
        for (Field one : PageServer.class.getDeclaredFields()) {
            if (!Modifier.isPrivate(one.getModifiers())) {
                seen.add(one.toString());
            }
        }
        return seen.toString();
    }

    private static String methods() {
        TreeSet<String> seen = new TreeSet<>();
        for (Method one : PageServer.class.getDeclaredMethods()) {
            if (!Modifier.isPrivate(one.getModifiers())) {
                seen.add(one.toString());
            }
        }
        return seen.toString();
    }
}
