import java.io.IOException;
import java.lang.reflect.Constructor;
import java.lang.reflect.Field;
import java.lang.reflect.Method;
import java.lang.reflect.Modifier;
import java.nio.file.Files;
import java.nio.file.Path;
import java.util.Set;
import java.util.TreeSet;
import java.util.regex.Pattern;

/** The public face is the document's and no more, and the file keeps to what LANGUAGE.md rules out. */
public final class FaceTest {
    private static final Due due = new Due();
    private static final Class<?> face = LedgerShares.class;

    public static void main(String[] args) throws IOException {
        due.is("final", Modifier.isFinal(face.getModifiers()), true);
        constants();
        methods();
        constructors();
        classesInside();
        source(Files.readString(Path.of("src/main/java/LedgerShares.java")));
        due.end();
    }

    private static void constants() {
        due.is("NONE", LedgerShares.NONE, -1);
        due.is("BAD", LedgerShares.BAD, -2);
        due.is("STATE", LedgerShares.STATE, -3);
        due.is("FULL", LedgerShares.FULL, -4);
        due.is("REFUSED", LedgerShares.REFUSED, -5);
        int open = 0;
        for (Field field : face.getDeclaredFields()) {
            open += Modifier.isPrivate(field.getModifiers()) ? 0 : 1;
            if (Modifier.isStatic(field.getModifiers())) {
                due.is(field.getName() + " is final", Modifier.isFinal(field.getModifiers()), true);
            }
        }
        due.is("constants", open, 5);
    }

    private static void methods() {
        Set<String> want = Set.of("int call(int,int,int,int,int)", "int clear()", "int gone(int,int)",
            "int run(int,int,int,int)", "long amount(int)", "long behind(int,int)", "int outcome(int)",
            "int of(int,int)", "int told(int)", "boolean same(int,int,int,int)", "int count(int)");
        Set<String> got = new TreeSet<>();
        for (Method method : face.getDeclaredMethods()) {
            if (!Modifier.isPrivate(method.getModifiers())) {
                due.is(method + " is public", Modifier.isPublic(method.getModifiers()), true);
                String whole = method.toString().replace("LedgerShares.", "").replace("public ", "");
                got.add(whole);
            }
        }
        due.is("methods " + got, got.equals(want), true);
    }

    private static void constructors() {
        Constructor<?>[] made = face.getDeclaredConstructors();
        due.is("constructors", made.length, 1);
        due.is("public", Modifier.isPublic(made[0].getModifiers()), true);
        due.is("without parameters", made[0].getParameterCount(), 0);
    }

    private static void classesInside() {
        Set<String> publicNames = new TreeSet<>();
        for (Method method : face.getDeclaredMethods()) {
            if (Modifier.isPublic(method.getModifiers())) {
                publicNames.add(method.getName());
            } else {
                due.is(method.getName() + " is no public name", publicNameOf(method), false);
            }
        }
        for (Class<?> inside : face.getDeclaredClasses()) {
            due.is(inside + " is static", Modifier.isStatic(inside.getModifiers()), true);
            due.is(inside + " is not public", Modifier.isPublic(inside.getModifiers()), false);
            due.is(inside + " has some twenty fields", inside.getDeclaredFields().length <= 20, true);
            for (Method method : inside.getDeclaredMethods()) {
                due.is(method.getName() + " is no public name", publicNames.contains(method.getName()), false);
            }
        }
    }

    private static boolean publicNameOf(Method method) {
        for (Method other : face.getMethods()) {
            if (other.getName().equals(method.getName())) {
                return true;
            }
        }
        return false;
    }

    private static void source(String text) {
        String code = text.replaceAll("(?s)/\\*.*?\\*/", "").replaceAll("//[^\n]*", "");
        String[] ruledOut = {"\\bimport\\b", "\\bpackage\\b", "\\bthrow\\b", "\\btry\\b", "\\bcatch\\b", "\\bassert\\b",
            "\\bsynchronized\\b", "->", "::", "Exact\\b", "\\bSystem\\.(?!arraycopy)", "\\bThread\\b", "\\bRandom\\b"};
        for (String word : ruledOut) {
            due.is("the file has " + word, Pattern.compile(word).matcher(code).find(), false);
        }
        due.is("characters 0 to 127", text.chars().allMatch(c -> c < 128), true);
    }
}
