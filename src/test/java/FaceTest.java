import java.io.IOException;
import java.lang.reflect.Constructor;
import java.lang.reflect.Field;
import java.lang.reflect.Method;
import java.lang.reflect.Modifier;
import java.nio.file.Files;
import java.nio.file.Path;
import java.util.Set;
import java.util.TreeSet;

/** The public face of the document, no more and no less, and sizes and words that LANGUAGE.md leaves out. */
public final class FaceTest {
    private static final String[] METHODS = {
        "int edition(int)", "int price(int,int,int)", "int member(int,int,int)", "int about(int,int,int)",
        "int differs(int,int,int)", "int node(int,int)", "int build(int,int)", "int propose(int,int)",
        "int vote(int,int,boolean)", "int rise(int)", "int force(int)", "int halted(int)", "int contract()",
        "int act(int,int,int)", "int deploy(int)", "int run(int,long,int)", "long cell(int,int)",
        "int logged(int,int)", "int digest()", "int replay(int)", "int count(int)"};
    private static final String[] LEFT_OUT = {
        "throw", "throws", "try", "catch", "finally", "synchronized", "assert", "import", "package", "protected",
        "equals", "hashCode", "Exact", "->", "::"};

    public static void main(String[] args) throws IOException {
        constants();
        members();
        classesInside();
        sizesOf(EngineVersions.class);
        source();
        Due.end();
    }

    private static void constants() {
        Due.is("NONE", EngineVersions.NONE, -1);
        Due.is("BAD", EngineVersions.BAD, -2);
        Due.is("NO", EngineVersions.NO, -3);
        Due.is("FULL", EngineVersions.FULL, -4);
    }

    private static void members() {
        Class<?> type = EngineVersions.class;
        Due.is("public and final", type.getModifiers(), Modifier.PUBLIC | Modifier.FINAL);
        Set<String> open = new TreeSet<>();
        Set<String> names = new TreeSet<>();
        for (Method method : type.getDeclaredMethods()) {
            if (!Modifier.isPrivate(method.getModifiers())) {
                Due.is(method + " is public alone", method.getModifiers(), Modifier.PUBLIC);
                open.add(told(method));
                names.add(method.getName());
            }
        }
        tell("methods", open, Set.of(METHODS));
        for (Method method : type.getDeclaredMethods()) {
            boolean twice = Modifier.isPrivate(method.getModifiers()) && names.contains(method.getName());
            Due.is("a private " + method.getName(), twice ? 1 : 0, 0);
        }
        Set<String> fields = new TreeSet<>();
        for (Field field : type.getDeclaredFields()) {
            if (!Modifier.isPrivate(field.getModifiers())) {
                fields.add(field.getName());
            }
            boolean changing = Modifier.isStatic(field.getModifiers()) && !Modifier.isFinal(field.getModifiers());
            Due.is("static state: " + field.getName(), changing ? 1 : 0, 0);
        }
        tell("fields", fields, Set.of("NONE", "BAD", "NO", "FULL"));
        Constructor<?>[] constructors = type.getDeclaredConstructors();
        Due.is("constructors", constructors.length, 1);
        Due.is("it is public", constructors[0].getModifiers(), Modifier.PUBLIC);
        Due.is("its parameters", constructors[0].getParameterCount(), 0);
    }

    private static String told(Method method) {
        StringBuilder text = new StringBuilder();
        text.append(method.getReturnType().getName()).append(' ').append(method.getName()).append('(');
        for (Class<?> parameter : method.getParameterTypes()) {
            text.append(text.charAt(text.length() - 1) == '(' ? "" : ",").append(parameter.getName());
        }
        return text.append(')').toString();
    }

    private static void classesInside() {
        Class<?>[] inside = EngineVersions.class.getDeclaredClasses();
        Due.is("some twelve classes", inside.length <= 11 ? 1 : 0, 1);
        for (Class<?> type : inside) {
            Due.is(type + " is static", Modifier.isStatic(type.getModifiers()) ? 1 : 0, 1);
            Due.is(type + " is not public", Modifier.isPublic(type.getModifiers()) ? 1 : 0, 0);
            sizesOf(type);
        }
    }

    private static void sizesOf(Class<?> type) {
        int fields = 0;
        for (Field field : type.getDeclaredFields()) {
            fields += Modifier.isStatic(field.getModifiers()) ? 0 : 1;
        }
        Due.is(type + " has some twenty fields", fields <= 20 ? 1 : 0, 1);
        for (Method method : type.getDeclaredMethods()) {
            Due.is(method + " takes at most seven", method.getParameterCount() <= 7 ? 1 : 0, 1);
        }
    }

    private static void source() throws IOException {
        String text = Files.readString(Path.of("src/main/java/EngineVersions.java"));
        for (String word : LEFT_OUT) {
            String pattern = Character.isLetter(word.charAt(0)) ? "(?s).*\\b" + word + "\\b.*" : "(?s).*" + word + ".*";
            Due.is("left out: " + word, text.matches(pattern) ? 1 : 0, 0);
        }
    }

    private static void tell(String what, Set<String> got, Set<String> want) {
        if (!got.equals(want)) {
            System.out.println(what + ": " + got);
        }
        Due.is(what, got.equals(want) ? 1 : 0, 1);
    }
}
