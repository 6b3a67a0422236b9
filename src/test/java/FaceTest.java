import java.lang.reflect.Constructor;
import java.lang.reflect.Field;
import java.lang.reflect.Method;
import java.lang.reflect.Modifier;
import java.nio.file.Files;
import java.nio.file.Path;
import java.util.Set;
import java.util.TreeSet;
import java.util.regex.Matcher;
import java.util.regex.Pattern;

/** The public face, just as the document has it, and rules of LANGUAGE.md that can be seen in the class or its text. */
public final class FaceTest {
    private static final String FACE = "int NONE|RiddleMill(int,int)"
        + "|int clue(int,int,int,int,int,int) throws(IllegalArgumentException,IllegalStateException)"
        + "|void drop(int) throws(IndexOutOfBoundsException)|int clueAt(int,int)"
        + "|int count(int) throws(IllegalArgumentException)|int answer(int)"
        + "|boolean needed(int) throws(IndexOutOfBoundsException)|int prove()|int step(int,int)|int may(int)"
        + "|int rating()|int make(int,int) throws(IllegalArgumentException)|boolean name(int,long)|int print(int)"
        + "|int shown(int)|int type(long)|int read() throws(IllegalArgumentException,IllegalStateException)"
        + "|int fault()|int about(int)";

    /** All of the library that the class uses; LANGUAGE.md, rule 4, has each of these. */
    private static final Set<String> LIBRARY =
        Set.of("Math.max", "Math.min", "Integer.bitCount", "System.arraycopy");

    private static String types(Class<?>[] types) {
        StringBuilder text = new StringBuilder("(");
        for (int k = 0; k < types.length; k++) {
            text.append(k == 0 ? "" : ",").append(types[k].getSimpleName());
        }
        return text.append(')').toString();
    }

    private static String thrown(Method method) {
        Class<?>[] types = method.getExceptionTypes();
        return types.length == 0 ? "" : " throws" + types(types);
    }

    private static void face() {
        Set<String> seen = new TreeSet<>();
        Set<String> names = new TreeSet<>();
        for (Field field : RiddleMill.class.getDeclaredFields()) {
            if (!Modifier.isPrivate(field.getModifiers())) {
                seen.add(field.getType().getSimpleName() + " " + field.getName());
            }
        }
        for (Constructor<?> made : RiddleMill.class.getDeclaredConstructors()) {
            seen.add("RiddleMill" + types(made.getParameterTypes()));
        }
        for (Method method : RiddleMill.class.getDeclaredMethods()) {
            if (!Modifier.isPrivate(method.getModifiers())) {
                names.add(method.getName());
                seen.add(method.getReturnType().getSimpleName() + " " + method.getName()
                    + types(method.getParameterTypes()) + thrown(method));
            }
        }
        Check.isTrue("the face is " + seen, seen.equals(new TreeSet<>(Set.of(FACE.split("\\|")))));
        Check.isTrue("public and final", Modifier.isPublic(RiddleMill.class.getModifiers())
            && Modifier.isFinal(RiddleMill.class.getModifiers()));
        Check.equal("NONE", RiddleMill.NONE, -1);
        for (Class<?> inside : RiddleMill.class.getDeclaredClasses()) {
            Check.isTrue(inside + " is static", Modifier.isStatic(inside.getModifiers()));
            for (Method method : inside.getDeclaredMethods()) {
                Check.isFalse(method + " bears a public name", names.contains(method.getName()));
                Check.isTrue(method + " takes at most seven", method.getParameterCount() <= 7);
            }
            for (Field field : inside.getDeclaredFields()) {
                Check.isTrue(field + " is final if static", !Modifier.isStatic(field.getModifiers())
                    || Modifier.isFinal(field.getModifiers()));
            }
        }
    }

    private static void text() throws Exception {
        String text = Files.readString(Path.of("src/main/java/RiddleMill.java"));
        for (String none : new String[] {"import ", "package ", "->", "::", "finally", "synchronized", "assert ",
            "static {", "Exact(", "toString", "hashCode", "getMessage", "System.out", "System.nano", "Thread"}) {
            Check.isFalse("the text has " + none, text.contains(none));
        }
    }

    private static void library() throws Exception {
        String text = Files.readString(Path.of("src/main/java/RiddleMill.java"));
        Matcher use = Pattern.compile("\\b(Math|Integer|Long|System|Arrays|String|List)\\.\\w+").matcher(text);
        while (use.find()) {
            Check.isTrue(use.group() + " is of the library's part that is left", LIBRARY.contains(use.group()));
        }
    }

    public static void main(String[] args) throws Exception {
        face();
        text();
        library();
        Check.done();
    }
}
