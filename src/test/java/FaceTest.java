import java.io.IOException;
import java.lang.reflect.Constructor;
import java.lang.reflect.Field;
import java.lang.reflect.Method;
import java.lang.reflect.Modifier;
import java.nio.file.Files;
import java.nio.file.Path;
import java.util.ArrayList;
import java.util.Arrays;
import java.util.HashSet;
import java.util.List;
import java.util.Set;
import java.util.TreeSet;
import java.util.regex.Matcher;
import java.util.regex.Pattern;

/** The public face, and those rules of LANGUAGE.md that can be seen without reading the code. */
public final class FaceTest {
    private static final String[] FACE = {
        "feed(long)", "end(int)", "organ()", "fault()", "rule(int)", "gutter(int,int)", "spout(int,int)", "peg(int,int)",
        "block(int,boolean)", "cup(int,int)", "settings(int)", "rain(int)", "dry()", "water(int)", "loud(int)",
        "shower(int,int)", "plays(int,int)", "falls(int,int)", "tune(int)", "tells(int,int)", "far(int)", "best(int,int)",
        "fewest(int,int)", "all(int)", "quiet(int,int)", "woken(int)", "heard(int)", "blocked(int)", "frozen(int)",
        "lasts(int,int)", "draws(int,int,int,int)", "keep(int)", "back(int)", "sheet(int,int,int)", "lay(int,int,int)",
        "read(int,int,int,int)", "torn()", "count(int)"};

    private static final String[] FORBIDDEN = {
        "throw", "throws", "try", "catch", "synchronized", "assert", "var", "volatile", "transient", "native", "protected",
        "Object", "Thread", "System.out", "System.nanoTime", "System.currentTimeMillis", "Random", "double", "float"};

    public static void main(String[] args) throws IOException {
        constants();
        members();
        nested();
        source();
        Check.finish("FaceTest");
    }

    private static void constants() {
        Check.due("BAD", RainOrgan.BAD, -1);
        Check.due("STATE", RainOrgan.STATE, -2);
        Check.due("FULL", RainOrgan.FULL, -3);
        Check.due("NONE", RainOrgan.NONE, -4);
    }

    private static void isTrue(String what, boolean is) {
        Check.due(what, is ? 1 : 0, 1);
    }

    private static String signature(Method method) {
        List<String> types = new ArrayList<>();
        for (Class<?> type : method.getParameterTypes()) {
            types.add(type.getSimpleName());
        }
        return method.getName() + "(" + String.join(",", types) + ")";
    }

    private static void members() {
        Class<?> c = RainOrgan.class;
        isTrue("public and final", Modifier.isPublic(c.getModifiers()) && Modifier.isFinal(c.getModifiers()));
        Set<String> face = new TreeSet<>();
        Set<String> names = new HashSet<>();
        for (Method method : c.getDeclaredMethods()) {
            if (Modifier.isPrivate(method.getModifiers())) {
                continue;
            }
            isTrue(method + " is public and of an object", method.getModifiers() == Modifier.PUBLIC);
            isTrue(method + " answers int", method.getReturnType() == int.class);
            face.add(signature(method));
            names.add(method.getName());
        }
        isTrue("the face is the document's: " + face, face.equals(new TreeSet<>(Arrays.asList(FACE))));
        for (Method method : c.getDeclaredMethods()) {
            isTrue("no private method has a public one's name: " + method,
                    !Modifier.isPrivate(method.getModifiers()) || !names.contains(method.getName()));
        }
        Constructor<?>[] constructors = c.getDeclaredConstructors();
        isTrue("one public constructor", constructors.length == 1 && Modifier.isPublic(constructors[0].getModifiers())
                && constructors[0].getParameterCount() == 0);
        Set<String> constants = new TreeSet<>();
        for (Field field : c.getDeclaredFields()) {
            if (!Modifier.isPrivate(field.getModifiers())) {
                constants.add(field.getName());
            }
        }
        isTrue("the constants are the document's", constants.equals(new TreeSet<>(List.of("BAD", "STATE", "FULL", "NONE"))));
    }

    private static void nested() {
        List<Class<?>> classes = new ArrayList<>(List.of(RainOrgan.class.getDeclaredClasses()));
        isTrue("some twelve classes", classes.size() + 1 <= 12);
        for (Class<?> c : classes) {
            isTrue(c + " is private and static", Modifier.isPrivate(c.getModifiers()) && Modifier.isStatic(c.getModifiers()));
        }
        classes.add(RainOrgan.class);
        for (Class<?> c : classes) {
            int fields = 0;
            for (Field field : c.getDeclaredFields()) {
                boolean isStatic = Modifier.isStatic(field.getModifiers());
                fields += isStatic ? 0 : 1;
                isTrue(field + ": static is final", !isStatic || Modifier.isFinal(field.getModifiers()));
            }
            isTrue(c + " has some twenty fields", fields <= 20);
            for (Method method : c.getDeclaredMethods()) {
                isTrue(method + " takes at most seven", method.getParameterCount() <= 7);
                isTrue(method + " has a name of its own", c == RainOrgan.class || !isOfTheFace(method.getName()));
            }
        }
    }

    private static boolean isOfTheFace(String name) {
        for (String call : FACE) {
            if (call.startsWith(name + "(")) {
                return true;
            }
        }
        return false;
    }

    /** The program without comments, texts and signs. */
    private static String bare(String text) {
        return text.replaceAll("(?s)/\\*.*?\\*/", " ").replaceAll("//[^\n]*", " ")
                .replaceAll("\"[^\"\n]*\"", "\"\"").replaceAll("'[^'\n]+'", "0");
    }

    private static void source() throws IOException {
        String code = bare(Files.readString(Path.of("src/main/java/RainOrgan.java")));
        for (String word : FORBIDDEN) {
            isTrue("no " + word, !Pattern.compile("(?<![\\w.])" + Pattern.quote(word) + "(?!\\w)").matcher(code).find());
        }
        isTrue("no lambda, no method reference", !code.contains("->") && !code.contains("::"));
        isTrue("no package", !code.contains("package "));
        Matcher imports = Pattern.compile("import ([^;]*);").matcher(code);
        while (imports.find()) {
            isTrue("import of " + imports.group(1), List.of("java.util.Arrays", "java.util.ArrayList", "java.util.List")
                    .contains(imports.group(1)));
        }
        Matcher library = Pattern.compile("\\b(Arrays|System|Math|Integer|Long)\\.(\\w+)").matcher(code);
        while (library.find()) {
            isTrue("library: " + library.group(), Set.of("Arrays.fill", "System.arraycopy", "Integer.bitCount")
                    .contains(library.group()));
        }
    }
}
