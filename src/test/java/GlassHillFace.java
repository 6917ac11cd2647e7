import java.lang.reflect.Constructor;
import java.lang.reflect.Field;
import java.lang.reflect.Method;
import java.lang.reflect.Modifier;
import java.nio.charset.StandardCharsets;
import java.nio.file.Files;
import java.nio.file.Path;
import java.util.Arrays;
import java.util.Set;
import java.util.TreeSet;
import java.util.regex.Matcher;
import java.util.regex.Pattern;

/** The face is the document's and nothing more; the source keeps to what LANGUAGE.md leaves. */
public final class GlassHillFace {
    private static final Path SOURCE = Path.of("src/main/java/GlassHill.java");

    private static final String[] FACE = {
        "int hill(int, int, int, int)", "int ofPace(int, int)", "int ofRider(int, int)",
        "int scratch(int, int)", "int speed(int, int)", "int shoe(int, int)",
        "int takes(int, int, int)", "int days(int, int, int, int, int)", "int fewest(int, int)",
        "int sand(int)", "int game(int, int, int)", "int worth(int)", "int reading(int, int)",
        "int back(int)", "int speeds(int, int, int, int, int, int)",
        "int nails(int, int, int, int, int)", "int slicks(int, int, int, int, int)",
        "int kinds(int, int, int, int, int)", "long odds(int, int, int, int, int, int)",
        "int sheet(int, int, int)", "int lose(int)", "int put(int, int, int)",
        "long cell(int, int, int)", "int copy(int, int, int, int, int)", "int tell(int)",
        "int cheer(int)", "int as(int, int)", "int trace()", "int fault()", "int many(int)"
    };

    private static final String[] CONSTANTS = {
        "int UNKNOWN=-1", "int OUTSIDE=-2", "int STATE=-3", "int FULL=-4", "int NONE=-9",
        "long LOST=-9223372036854775808"
    };

    private static final String[] FORBIDDEN = {
        "throw", "throws", "try", "catch", "synchronized", "assert", "protected", "volatile",
        "Object", "Exact", "random", "Random", "System.currentTimeMillis", "System.nanoTime",
        "Thread", "->", "::", "NaN", "HashMap", "HashSet", "Exception"
    };

    private static int wrong = 0;

    public static void main(String[] args) throws Exception {
        methodsAreTheFace();
        constantsAreTheFace();
        constructorIsTheFace();
        classesInsideAreStatic();
        sourceKeepsToTheLanguage();
        System.out.println(wrong == 0 ? "the face is as due" : wrong + " of the face not as due");
        if (wrong != 0) {
            System.exit(1);
        }
    }

    private static void same(String what, Object got, Object want) {
        if (!got.equals(want)) {
            wrong++;
            System.out.println(what + ": " + got + ", due is " + want);
        }
    }

    private static void methodsAreTheFace() {
        Set<String> seen = new TreeSet<>();
        Set<String> names = new TreeSet<>();
        for (Method m : GlassHill.class.getDeclaredMethods()) {
            if (!Modifier.isPrivate(m.getModifiers())) {
                same("public " + m, m.getModifiers(), Modifier.PUBLIC);
                seen.add(signature(m));
                names.add(m.getName());
            }
        }
        same("methods", seen, new TreeSet<>(Arrays.asList(FACE)));
        privateNamesAreOthers(GlassHill.class, names);
        for (Class<?> inside : GlassHill.class.getDeclaredClasses()) {
            privateNamesAreOthers(inside, names);
        }
    }

    private static void privateNamesAreOthers(Class<?> owner, Set<String> names) {
        for (Method m : owner.getDeclaredMethods()) {
            if (owner != GlassHill.class || Modifier.isPrivate(m.getModifiers())) {
                same(owner + " bears a public name: " + m.getName(), names.contains(m.getName()), false);
            }
        }
    }

    private static String signature(Method m) {
        StringBuilder text = new StringBuilder(m.getReturnType() + " " + m.getName() + "(");
        Class<?>[] types = m.getParameterTypes();
        for (int i = 0; i < types.length; i++) {
            text.append(i == 0 ? "" : ", ").append(types[i]);
        }
        return text.append(")").toString();
    }

    private static void constantsAreTheFace() throws Exception {
        Set<String> seen = new TreeSet<>();
        for (Field f : GlassHill.class.getDeclaredFields()) {
            if (!Modifier.isPrivate(f.getModifiers())) {
                same("modifiers of " + f.getName(), f.getModifiers(),
                        Modifier.PUBLIC | Modifier.STATIC | Modifier.FINAL);
                seen.add(f.getType() + " " + f.getName() + "=" + f.get(null));
            }
        }
        same("constants", seen, new TreeSet<>(Arrays.asList(CONSTANTS)));
    }

    private static void constructorIsTheFace() {
        same("the class", GlassHill.class.getModifiers(), Modifier.PUBLIC | Modifier.FINAL);
        Constructor<?>[] all = GlassHill.class.getDeclaredConstructors();
        same("constructors", all.length, 1);
        same("its parameters", all[0].getParameterCount(), 0);
        same("its modifiers", all[0].getModifiers(), Modifier.PUBLIC);
    }

    private static void classesInsideAreStatic() {
        for (Class<?> inside : GlassHill.class.getDeclaredClasses()) {
            same(inside + " is static", Modifier.isStatic(inside.getModifiers()), true);
        }
    }

    private static void sourceKeepsToTheLanguage() throws Exception {
        String source = Files.readString(SOURCE, StandardCharsets.UTF_8);
        String code = source.replaceAll("(?s)/\\*.*?\\*/", " ").replaceAll("//[^\n]*", " ");
        for (String word : FORBIDDEN) {
            String edge = Character.isLetter(word.charAt(0)) ? "\\b" : "";
            Matcher found = Pattern.compile(edge + Pattern.quote(word) + edge).matcher(code);
            same("forbidden word " + word, found.find(), false);
        }
        Matcher imports = Pattern.compile("import [^;]*;").matcher(code);
        while (imports.find()) {
            String name = imports.group();
            boolean left = name.matches("import java\\.util\\.(Arrays|ArrayList|List|Iterator);");
            same(name, left, true);
        }
    }
}
