import java.io.IOException;
import java.lang.reflect.Constructor;
import java.lang.reflect.Field;
import java.lang.reflect.Method;
import java.lang.reflect.Modifier;
import java.nio.file.Files;
import java.nio.file.Path;
import java.util.ArrayList;
import java.util.List;
import java.util.TreeSet;
import java.util.regex.Matcher;
import java.util.regex.Pattern;

/** The public face is the document's, and the file keeps to those rules of LANGUAGE.md that a text search can see. */
public final class FaceTest {
    private static final String SOURCE = "src/main/java/EvenstartGames.java";
    private static final int MOST_FIELDS = 20;
    private static final int MOST_CLASSES = 12;
    private static final int MOST_PARAMETERS = 7;

    /** As the document has them; the exceptions by the letters of letterOf. */
    private static final String FACE = """
            int athlete(int) throws I, S
            int body(int, int, int) throws I, A
            int show(int, int, int) throws I, A
            int found(int, int) throws I, A, N
            int classifier(int) throws I, S
            int kind(int, int, int, int) throws A, S
            int belongs(int) throws I
            char test(int, int, int) throws I, A, U
            char status(int) throws I
            int classOf(int) throws I
            char watch(int) throws I, U
            boolean protest(int, int) throws I, U
            int money(int) throws I
            int border(int, int, int) throws I, A
            int year()
            int next() throws S
            int until(int) throws I, N
            int event(int) throws A, S
            int factor(int, int, int) throws I, A, U
            int enter(int, int) throws I, U
            int begin(int) throws I, U
            int result(int, int, int, int) throws I, A, U
            boolean fell(int, int) throws I, N
            int time(int, int) throws I, N
            int inClass(int, int) throws I, N
            int close(int) throws I, U
            int at(int, int) throws I, N
            int place(int, int) throws I, N
            int slot(int, int, int) throws I, A, N
            int record(int) throws I, N
            int floor(int, int) throws I, A, U
            int swap(int, int, int) throws I, A, U
            int onFloor(int) throws I
            int points(int) throws I
            long checksum()
            float fallenShare() throws N
            double meanLack(int) throws I
            boolean isSound()
            """;

    private static final String[] FORBIDDEN = {"->", "::", "\\btry\\b", "\\bcatch\\b", "\\bfinally\\b",
        "\\bsynchronized\\b", "\\bassert\\b", "\\bprotected\\b", "\\bvar\\b", "\\bnative\\b", "\\bvolatile\\b",
        "\\bequals\\(", "\\bhashCode\\(", "\\btoString\\(", "\\bMath\\.", "\\bSystem\\.", "Exact\\(",
        "\" \\+", "\\+ \"",
        "new RuntimeException", "\\(Object\\)", "@"};

    private static int wrong;

    public static void main(String[] args) throws IOException {
        face();
        members(EvenstartGames.class);
        nested();
        text(Files.readString(Path.of(SOURCE)));
        System.out.println(wrong == 0 ? "the face is as due" : wrong + " rules are broken");
        if (wrong != 0) {
            System.exit(1);
        }
    }

    private static void need(boolean good, String what) {
        if (!good) {
            wrong++;
            System.out.println("not so: " + what);
        }
    }

    private static void face() {
        TreeSet<String> due = new TreeSet<>(List.of(FACE.strip().split("\n")));
        TreeSet<String> got = new TreeSet<>();
        for (Method method : EvenstartGames.class.getDeclaredMethods()) {
            if (Modifier.isPublic(method.getModifiers())) {
                got.add(signature(method));
                need(!Modifier.isStatic(method.getModifiers()), method + " is of the object");
            }
        }
        need(got.equals(due), "the face " + due + " is " + got);
        need(Modifier.isPublic(EvenstartGames.class.getModifiers()), "the class is public");
        need(Modifier.isFinal(EvenstartGames.class.getModifiers()), "the class is final");
        Constructor<?>[] constructors = EvenstartGames.class.getDeclaredConstructors();
        need(constructors.length == 1 && constructors[0].getParameterCount() == 0
                && Modifier.isPublic(constructors[0].getModifiers()), "one public constructor without parameters");
    }

    private static String signature(Method method) {
        List<String> types = new ArrayList<>();
        for (Class<?> type : method.getParameterTypes()) {
            types.add(type.getName());
        }
        List<String> thrown = new ArrayList<>();
        for (Class<?> type : method.getExceptionTypes()) {
            thrown.add(letterOf(type.getSimpleName()));
        }
        return method.getReturnType().getName() + " " + method.getName() + "(" + String.join(", ", types) + ")"
                + (thrown.isEmpty() ? "" : " throws " + String.join(", ", thrown));
    }

    private static String letterOf(String exception) {
        switch (exception) {
            case "IndexOutOfBoundsException":
                return "I";
            case "IllegalArgumentException":
                return "A";
            case "IllegalStateException":
                return "S";
            case "UnsupportedOperationException":
                return "U";
            case "NoSuchElementException":
                return "N";
            default:
                return exception;
        }
    }

    private static void members(Class<?> outer) {
        TreeSet<String> publicNames = new TreeSet<>();
        for (Method method : outer.getDeclaredMethods()) {
            if (Modifier.isPublic(method.getModifiers())) {
                publicNames.add(method.getName());
            }
        }
        for (Class<?> type : allClasses()) {
            int fields = 0;
            for (Field field : type.getDeclaredFields()) {
                boolean isStatic = Modifier.isStatic(field.getModifiers());
                fields += isStatic ? 0 : 1;
                need(!isStatic || Modifier.isFinal(field.getModifiers()), field + " is final");
                need(type != outer || Modifier.isPrivate(field.getModifiers()), field + " is private");
            }
            need(fields <= MOST_FIELDS, type + " has at most 20 fields");
            for (Method method : type.getDeclaredMethods()) {
                boolean isPublic = Modifier.isPublic(method.getModifiers());
                need(method.getParameterCount() <= MOST_PARAMETERS, method + " takes at most 7 parameters");
                need(isPublic || !publicNames.contains(method.getName()), method + " has a name of its own");
                need(type != outer || isPublic || Modifier.isPrivate(method.getModifiers()), method + " is private");
            }
        }
    }

    private static List<Class<?>> allClasses() {
        List<Class<?>> all = new ArrayList<>();
        all.add(EvenstartGames.class);
        all.addAll(List.of(EvenstartGames.class.getDeclaredClasses()));
        return all;
    }

    private static void nested() {
        need(allClasses().size() <= MOST_CLASSES, "at most 12 classes");
        for (Class<?> type : EvenstartGames.class.getDeclaredClasses()) {
            int modifiers = type.getModifiers();
            need(Modifier.isStatic(modifiers), type + " is static");
            need(!Modifier.isPublic(modifiers) && !Modifier.isProtected(modifiers), type + " is not public");
        }
    }

    private static void text(String source) {
        for (int i = 0; i < source.length(); i++) {
            need(source.charAt(i) >= 1 && source.charAt(i) < 128, "sign " + i + " is 1 to 127");
        }
        String code = source.replaceAll("(?s)/\\*.*?\\*/", "").replaceAll("//[^\n]*", "");
        for (String pattern : FORBIDDEN) {
            need(!Pattern.compile(pattern).matcher(code).find(), "without " + pattern);
        }
        Matcher imports = Pattern.compile("import ([^;]*);").matcher(code);
        while (imports.find()) {
            need(List.of("java.util.ArrayList", "java.util.List", "java.util.NoSuchElementException")
                    .contains(imports.group(1)), "import of " + imports.group(1));
        }
    }
}
