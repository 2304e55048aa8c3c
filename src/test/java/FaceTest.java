import java.io.IOException;
import java.lang.reflect.Constructor;
import java.lang.reflect.Field;
import java.lang.reflect.Method;
import java.lang.reflect.Modifier;
import java.nio.file.Files;
import java.nio.file.Path;
import java.util.ArrayList;
import java.util.HashSet;
import java.util.List;
import java.util.Set;
import java.util.TreeSet;
import java.util.regex.Matcher;
import java.util.regex.Pattern;

/** The class has the face of the document and no other; its own classes keep to the sizes of LANGUAGE.md. */
public final class FaceTest {
    private static final Checks CHECKS = new Checks("FaceTest");
    private static final String[] FACE = {
        "int put(int,int,int,int,int)", "long part(int,int)", "long norm(int)", "int times(int,int,int)",
        "int sum(int,int,int,int)", "int flip(int)", "int prime(int)", "int modulus(int)", "long step(int,int)",
        "int node(int,int)", "int nodeOf(int)", "int to(int,int)", "int far(int,int)", "int many(int)", "int ring()",
        "long walks(int,int)", "int counted(int)", "long bound(int)", "int way(int,int)", "int apart(int,int)",
        "int walk(int)", "int back()", "int ends(int)", "int meets(int)", "int product(int,int)", "int film(int,int)",
        "int note(int)", "long book(int,int)", "int strike(int)", "int feed(int)", "int wipe()", "int read(int)",
        "int why(int,int)", "int row(int,int)", "int set(int,int,int)", "long get(int,int)", "int image()",
        "int restore()", "int count(int)"};
    private static final String[] CONSTANTS = {"int BAD", "int NOT", "int FULL", "int STATE", "long VOID"};

    private static final Path DOCUMENT = Path.of("../shared/DOC.md");

    private static void holds(String what, boolean is) {
        CHECKS.due(what, is ? 1 : 0, 1);
    }

    private static String told(Method method) {
        List<String> kinds = new ArrayList<>();
        for (Class<?> kind : method.getParameterTypes()) kinds.add(kind.getName());
        return method.getReturnType().getName() + " " + method.getName() + "(" + String.join(",", kinds) + ")";
    }

    private static void methods(Class<?> face) {
        Set<String> open = new TreeSet<>();
        for (Method method : face.getDeclaredMethods()) {
            if (Modifier.isPrivate(method.getModifiers())) continue;
            holds(method + " is public and of the object", method.getModifiers() == Modifier.PUBLIC);
            open.add(told(method));
        }
        holds("the methods: " + open, open.equals(new TreeSet<>(List.of(FACE))));
    }

    private static void fields(Class<?> face) {
        Set<String> open = new TreeSet<>();
        int constants = Modifier.PUBLIC | Modifier.STATIC | Modifier.FINAL;
        for (Field field : face.getDeclaredFields()) {
            if (Modifier.isPrivate(field.getModifiers())) continue;
            holds(field + " is a constant", field.getModifiers() == constants);
            open.add(field.getType().getName() + " " + field.getName());
        }
        holds("the constants: " + open, open.equals(new TreeSet<>(List.of(CONSTANTS))));
    }

    /** What is told above is what the document says, where it is at hand. */
    private static void document() throws IOException {
        if (!Files.exists(DOCUMENT)) return;
        Matcher block = Pattern.compile("(?s)```java\n(.*?)```").matcher(Files.readString(DOCUMENT));
        holds("the document has a face", block.find());
        Set<String> methods = new TreeSet<>();
        Matcher method = Pattern.compile("public (\\w+ \\w+)\\(([^)]*)\\);").matcher(block.group(1));
        while (method.find()) methods.add(method.group(1) + "(" + method.group(2).replaceAll(" \\w+(, )?", ",").replaceAll(",$", "") + ")");
        holds("the document's methods: " + methods, methods.equals(new TreeSet<>(List.of(FACE))));
        Set<String> constants = new TreeSet<>();
        Matcher line = Pattern.compile("public static final (\\w+) ([^;]*);").matcher(block.group(1));
        while (line.find()) {
            for (String one : line.group(2).split(", ")) constants.add(line.group(1) + " " + one.replaceAll(" =.*", ""));
        }
        holds("the document's constants: " + constants, constants.equals(new TreeSet<>(List.of(CONSTANTS))));
    }

    private static void classesInside(Class<?> face) {
        Class<?>[] inside = face.getDeclaredClasses();
        holds("at most twelve classes", inside.length < 12);
        for (Class<?> one : inside) {
            holds(one + " is static", Modifier.isStatic(one.getModifiers()));
            holds(one + " is private or package-visible", (one.getModifiers() & (Modifier.PUBLIC | Modifier.PROTECTED)) == 0);
        }
    }

    private static void sizes(Class<?> one) {
        int own = 0;
        for (Field field : one.getDeclaredFields()) {
            boolean isStatic = Modifier.isStatic(field.getModifiers());
            if (!isStatic) own++;
            holds(field + " is final, if static", !isStatic || Modifier.isFinal(field.getModifiers()));
        }
        holds(one + " has at most twenty fields", own <= 20);
        Set<String> names = new HashSet<>();
        for (String told : FACE) names.add(told.substring(told.indexOf(' ') + 1, told.indexOf('(')));
        for (Method method : one.getDeclaredMethods()) {
            holds(method + " has at most seven parameters", method.getParameterCount() <= 7);
            boolean isOpen = one == QuaternionNet.class && Modifier.isPublic(method.getModifiers());
            holds(method + " bears a name of its own", isOpen || !names.contains(method.getName()));
        }
    }

    public static void main(String[] args) throws IOException {
        Class<?> face = QuaternionNet.class;
        holds("public and final", face.getModifiers() == (Modifier.PUBLIC | Modifier.FINAL));
        holds("without a package", face.getPackageName().isEmpty());
        Constructor<?>[] makers = face.getDeclaredConstructors();
        holds("one constructor", makers.length == 1 && makers[0].getParameterCount() == 0
            && Modifier.isPublic(makers[0].getModifiers()));
        methods(face);
        fields(face);
        document();
        classesInside(face);
        sizes(face);
        for (Class<?> one : face.getDeclaredClasses()) sizes(one);
        CHECKS.end();
    }
}
