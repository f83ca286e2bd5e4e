import java.lang.reflect.Constructor;
import java.lang.reflect.Field;
import java.lang.reflect.Method;
import java.lang.reflect.Modifier;
import java.nio.file.Files;
import java.nio.file.Path;
import java.util.Arrays;
import java.util.Set;
import java.util.TreeSet;
import java.util.regex.Matcher;
import java.util.regex.Pattern;

/** The public face of the document, and the rules of LANGUAGE.md that can be seen from outside. */
public final class FaceTest {
    private static final String[] METHODS = {
        "side 1", "set 2", "at 1", "say 1", "wipe 0", "take 1", "drop 1", "fill 0", "letter 3", "stands 3",
        "put 2", "fits 2", "most 1", "covers 3", "good 1", "hide 0", "image 1", "restore 1", "count 1"};
    private static final String[] CONSTANTS = {
        "UNKNOWN -1", "OUTSIDE -2", "STATE -3", "FULL -4", "NO -5", "NONE -6", "FAULT -7"};
    private static final String[] BARRED_IN_SOURCE = {
        "\\bthrow\\b", "\\bthrows\\b", "\\btry\\b", "\\bcatch\\b", "\\bsynchronized\\b", "\\bassert\\b", "->", "::",
        "\\bpackage\\b", "Exact\\b", "\\bprotected\\b", "\\bSystem\\.(?!arraycopy)", "\\bRandom\\b", "\\bThread\\b",
        "\\bstatic\\s*\\{", "\\bwhile\\s*\\(\\s*true", "for\\s*\\(\\s*;\\s*;"};
    private static int wrong = 0;

    public static void main(String[] args) throws Exception {
        classIsFinal();
        constants();
        constructors();
        methods();
        nestedClasses();
        source(Files.readString(Path.of("src/main/java/WordHides.java")));
        System.out.println(wrong == 0 ? "the face is as told" : wrong + " faults");
        if (wrong != 0) {
            System.exit(1);
        }
    }

    private static void must(boolean holds, String what) {
        if (!holds) {
            wrong++;
            System.out.println("not so: " + what);
        }
    }

    private static void classIsFinal() {
        int modifiers = WordHides.class.getModifiers();
        must(Modifier.isPublic(modifiers) && Modifier.isFinal(modifiers), "the class is public and final");
        must(WordHides.class.getSuperclass() == Object.class, "the class extends nothing");
        must(WordHides.class.getInterfaces().length == 0, "the class implements nothing");
    }

    private static void constants() throws Exception {
        Set<String> seen = new TreeSet<>();
        for (Field field : WordHides.class.getDeclaredFields()) {
            boolean fixed = Modifier.isStatic(field.getModifiers()) && Modifier.isFinal(field.getModifiers());
            must(fixed || !Modifier.isStatic(field.getModifiers()), "static field " + field.getName() + " is final");
            if (!Modifier.isPrivate(field.getModifiers())) {
                must(fixed && Modifier.isPublic(field.getModifiers()) && field.getType() == int.class,
                        field.getName() + " is a public int constant");
                seen.add(field.getName() + " " + field.getInt(null));
            }
        }
        must(seen.equals(new TreeSet<>(Arrays.asList(CONSTANTS))), "the constants are the document's, not " + seen);
    }

    private static void constructors() {
        Constructor<?>[] all = WordHides.class.getDeclaredConstructors();
        must(all.length == 1 && all[0].getParameterCount() == 0 && Modifier.isPublic(all[0].getModifiers()),
                "there is one constructor, public and without parameters");
    }

    private static void methods() {
        Set<String> open = new TreeSet<>();
        Set<String> names = new TreeSet<>();
        for (Method method : WordHides.class.getDeclaredMethods()) {
            if (!Modifier.isPrivate(method.getModifiers()) && !method.isSynthetic()) {
                open.add(method.getName() + " " + method.getParameterCount());
                names.add(method.getName());
                must(Modifier.isPublic(method.getModifiers()) && !Modifier.isStatic(method.getModifiers())
                        && method.getReturnType() == int.class
                        && Arrays.stream(method.getParameterTypes()).allMatch(type -> type == int.class),
                        method.getName() + " is public, of ints");
            }
        }
        must(open.equals(new TreeSet<>(Arrays.asList(METHODS))), "the methods are the document's, not " + open);
        privateNames(WordHides.class, names);
        for (Class<?> inner : WordHides.class.getDeclaredClasses()) {
            privateNames(inner, names);
        }
    }

    private static void privateNames(Class<?> owner, Set<String> names) {
        for (Method method : owner.getDeclaredMethods()) {
            must(!Modifier.isPrivate(method.getModifiers()) || !names.contains(method.getName()),
                    "no private method is called " + method.getName());
            must(method.getParameterCount() <= 7, method.getName() + " takes at most seven parameters");
        }
    }

    private static void nestedClasses() {
        Class<?>[] nested = WordHides.class.getDeclaredClasses();
        must(nested.length <= 11, "there are at most twelve classes");
        for (Class<?> inner : nested) {
            int modifiers = inner.getModifiers();
            must(Modifier.isStatic(modifiers), inner.getName() + " is static");
            must(!Modifier.isPublic(modifiers) && !Modifier.isProtected(modifiers), inner.getName() + " is not open");
            must(inner.getDeclaredFields().length <= 20, inner.getName() + " has at most twenty fields");
        }
    }

    private static void source(String text) {
        String code = text.replaceAll("(?s)/\\*.*?\\*/", "").replaceAll("//[^\n]*", "");
        for (String barred : BARRED_IN_SOURCE) {
            must(!Pattern.compile(barred).matcher(code).find(), "the source has no " + barred);
        }
        Matcher imports = Pattern.compile("\\bimport\\s+([^;]+);").matcher(code);
        while (imports.find()) {
            must(Set.of("java.util.Arrays", "java.util.ArrayList", "java.util.List").contains(imports.group(1)),
                    "import of " + imports.group(1) + " is allowed");
        }
    }
}
