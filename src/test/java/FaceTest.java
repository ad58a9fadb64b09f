import java.io.IOException;
import java.lang.reflect.Constructor;
import java.lang.reflect.Field;
import java.lang.reflect.Method;
import java.lang.reflect.Modifier;
import java.nio.file.Files;
import java.nio.file.Path;
import java.util.ArrayList;
import java.util.List;
import java.util.TreeSet;

/** The public face, and those rules of LANGUAGE.md that can be seen without reading. */
public final class FaceTest {
    private static final List<String> FACE = List.of("boolean end(int)", "int about(int,int)", "int asks(int,int)",
        "int bid(int,int,int)", "int close()", "int count(int)", "int fault()", "int feed(int,int,int,int,int)",
        "int fund(int)", "int give(int,int,int)", "int holds(int,int,int)", "int person(int)", "int price(int,int)",
        "int purse(int,int) NoSuchElementException", "int rule(int)", "int rules()", "int work(int,int)",
        "long owned(int,int,int,int) NoSuchElementException");
    private static final List<String> RULED_OUT = List.of("->", "::", "finally", "synchronized", "assert ", "catch",
        "Exact(", "HashMap", "System.out", "Random", "Thread", "currentTime", "nanoTime", "String.format", "double",
        "float", "getMessage", ".ordinal(", ".name(", ".hashCode(", ".toString(");

    private static final List<String> WRONG = new ArrayList<>();

    public static void main(String[] args) throws IOException {
        face();
        noOtherMembers();
        nestedClasses();
        source();
        WRONG.forEach(System.out::println);
        System.out.println(WRONG.isEmpty() ? "the face is as told" : WRONG.size() + " wrong");
        if (!WRONG.isEmpty()) {
            System.exit(1);
        }
    }

    private static void face() {
        TreeSet<String> found = new TreeSet<>();
        for (Method method : CouponSale.class.getDeclaredMethods()) {
            if (Modifier.isPublic(method.getModifiers())) {
                found.add(signature(method));
            }
        }
        expect("methods " + found, new TreeSet<>(FACE).equals(found));
        int modifiers = CouponSale.class.getModifiers();
        expect("public and final", Modifier.isPublic(modifiers) && Modifier.isFinal(modifiers));
        expect("no package", CouponSale.class.getPackageName().isEmpty());
        Constructor<?>[] constructors = CouponSale.class.getDeclaredConstructors();
        expect("one constructor", constructors.length == 1 && constructors[0].getParameterCount() == 0
            && Modifier.isPublic(constructors[0].getModifiers()));
    }

    private static String signature(Method method) {
        StringBuilder text = new StringBuilder(method.getReturnType() + " " + method.getName() + "(");
        for (int i = 0; i < method.getParameterCount(); i++) {
            text.append(i == 0 ? "" : ",").append(method.getParameterTypes()[i]);
        }
        text.append(")");
        for (Class<?> thrown : method.getExceptionTypes()) {
            text.append(" ").append(thrown.getSimpleName());
        }
        return text.toString();
    }

    private static void noOtherMembers() {
        TreeSet<String> names = new TreeSet<>();
        FACE.forEach(line -> names.add(line.substring(line.indexOf(' ') + 1, line.indexOf('('))));
        for (Method method : CouponSale.class.getDeclaredMethods()) {
            if (!Modifier.isPublic(method.getModifiers())) {
                expect("private: " + method, Modifier.isPrivate(method.getModifiers()));
                expect("a name of the face: " + method, !names.contains(method.getName()));
            }
        }
        for (Field field : CouponSale.class.getDeclaredFields()) {
            boolean constant = field.getName().equals("NONE") && Modifier.isPublic(field.getModifiers());
            expect("private: " + field, constant || Modifier.isPrivate(field.getModifiers()));
            expect("final where static: " + field, !Modifier.isStatic(field.getModifiers())
                || Modifier.isFinal(field.getModifiers()));
        }
    }

    private static void nestedClasses() {
        Class<?>[] nested = CouponSale.class.getDeclaredClasses();
        expect("some twelve classes", nested.length < 12);
        for (Class<?> one : nested) {
            int modifiers = one.getModifiers();
            expect("static: " + one, Modifier.isStatic(modifiers));
            expect("not public: " + one, !Modifier.isPublic(modifiers) && !Modifier.isProtected(modifiers));
            expect("some twenty fields: " + one, one.getDeclaredFields().length <= 20);
        }
    }

    private static void source() throws IOException {
        String text = Files.readString(Path.of("src/main/java/CouponSale.java"));
        String code = text.replaceAll("(?s)/\\*.*?\\*/", "").replaceAll("//[^\n]*", "");
        for (String word : RULED_OUT) {
            expect("ruled out: " + word, !code.contains(word));
        }
        expect("one import", code.split("\nimport ", -1).length + (code.startsWith("import ") ? 1 : 0) == 2
            && code.contains("import java.util.NoSuchElementException;"));
        expect("plain signs", text.chars().allMatch(sign -> sign == 10 || sign >= 32 && sign < 127));
        expect("throws by the document alone", code.split("throw new", -1).length - 1 == 2
            && code.split("throw new NoSuchElementException\\(\\)", -1).length - 1 == 2);
    }

    private static void expect(String what, boolean holds) {
        if (!holds) {
            WRONG.add("not as told: " + what);
        }
    }
}
