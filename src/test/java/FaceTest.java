import java.io.IOException;
import java.lang.reflect.Constructor;
import java.lang.reflect.Field;
import java.lang.reflect.Method;
import java.lang.reflect.Modifier;
import java.nio.file.Files;
import java.nio.file.Path;
import java.util.Arrays;
import java.util.Set;
import java.util.TreeSet;
import java.util.regex.Pattern;

/** The public face of the document, and some rules of LANGUAGE.md that can be seen from outside. */
final class FaceTest {
    private static final Check CHECK = new Check();
    private static final String I = "IndexOutOfBoundsException";
    private static final String IA = "IndexOutOfBoundsException,IllegalArgumentException";
    private static final String[] METHODS = {
        "int feed(5) ", "void load(2) " + IA, "int size(1) " + I, "int octet(2) " + I, "int cut(4) " + IA,
        "int join(3) " + I, "int change(3) " + IA, "int calc(5) " + IA, "int compare(2) " + I, "int bits(1) " + I,
        "boolean probable(1) " + I, "int next(2) " + I, "int digest(3) " + IA, "int mask(4) " + IA,
        "int key(3) " + I, "int open(2) " + I, "int part(3) " + IA, "int turn(4) " + IA, "int hide(6) " + IA,
        "int show(5) " + IA, "int fill(4) " + I, "int empty(3) " + I, "int sign(4) " + IA, "int prove(4) " + IA,
        "int salt(5) " + IA, "int taste(5) " + IA, "int keys(0) "
    };
    private static final String[] RULED_OUT = {
        "\\bimport\\b", "\\bpackage\\b", "->", "::", "\\bcatch\\b", "\\bfinally\\b", "\\bsynchronized\\b", "\\bassert\\b",
        "Exact\\b", "\\bgetMessage\\b", "\\bprotected\\b", "\\bstatic \\{", "\\bvar\\b", "\\bdouble\\b", "\\bfloat\\b"
    };

    public static void main(String[] args) throws IOException {
        face();
        members();
        nested();
        source();
        CHECK.end();
    }

    private static void face() {
        CHECK.holds("public and final", SealHouse.class.getModifiers() == (Modifier.PUBLIC | Modifier.FINAL));
        Set<String> found = new TreeSet<>();
        for (Method method : SealHouse.class.getDeclaredMethods()) {
            if (Modifier.isPublic(method.getModifiers())) {
                found.add(lineOf(method));
                CHECK.holds("no static call: " + method, !Modifier.isStatic(method.getModifiers()));
            }
        }
        Set<String> want = new TreeSet<>(Arrays.asList(METHODS));
        CHECK.holds("the methods " + found + " are " + want, found.equals(want));
        Constructor<?>[] made = SealHouse.class.getDeclaredConstructors();
        CHECK.holds("one constructor", made.length == 1 && made[0].getParameterCount() == 0
                && Modifier.isPublic(made[0].getModifiers()));
    }

    private static String lineOf(Method method) {
        StringBuilder thrown = new StringBuilder();
        for (Class<?> one : method.getExceptionTypes()) {
            thrown.append(thrown.length() == 0 ? "" : ",").append(one.getSimpleName());
        }
        boolean ints = Arrays.stream(method.getParameterTypes()).allMatch(type -> type == int.class);
        return method.getReturnType() + " " + method.getName() + "(" + (ints ? method.getParameterCount() : -1) + ") "
                + thrown;
    }

    private static void members() {
        for (Method method : SealHouse.class.getDeclaredMethods()) {
            int how = method.getModifiers();
            CHECK.holds("public or private: " + method, Modifier.isPublic(how) || Modifier.isPrivate(how));
        }
        int open = 0;
        for (Field field : SealHouse.class.getDeclaredFields()) {
            int how = field.getModifiers();
            CHECK.holds("static is final: " + field, !Modifier.isStatic(how) || Modifier.isFinal(how));
            if (!Modifier.isPrivate(how)) {
                open++;
                CHECK.holds("NONE alone is seen: " + field, field.getName().equals("NONE") && Modifier.isPublic(how));
            }
        }
        CHECK.due("one constant", 1, open);
    }

    private static void nested() {
        Set<String> face = new TreeSet<>();
        for (Method method : SealHouse.class.getMethods()) {
            face.add(method.getName());
        }
        Class<?>[] all = SealHouse.class.getDeclaredClasses();
        CHECK.holds("at most some twelve classes", all.length < 12);
        for (Class<?> one : all) {
            CHECK.holds("static: " + one, Modifier.isStatic(one.getModifiers()));
            for (Method method : one.getDeclaredMethods()) {
                CHECK.holds("no name of the face: " + method, !face.contains(method.getName()));
                CHECK.holds("at most seven parameters: " + method, method.getParameterCount() <= 7);
            }
            for (Field field : one.getDeclaredFields()) {
                int how = field.getModifiers();
                CHECK.holds("static is final: " + field, !Modifier.isStatic(how) || Modifier.isFinal(how));
            }
        }
    }

    private static void source() throws IOException {
        String text = Files.readString(Path.of(System.getProperty("source", "src/main/java/SealHouse.java")));
        String code = text.replaceAll("(?s)/\\*.*?\\*/", "").replaceAll("//[^\n]*", "").replaceAll("\"[^\"]*\"", "\"\"");
        for (String word : RULED_OUT) {
            CHECK.holds("no " + word, !Pattern.compile(word).matcher(code).find());
        }
    }
}
