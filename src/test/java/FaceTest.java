import java.io.IOException;
import java.lang.reflect.Constructor;
import java.lang.reflect.Field;
import java.lang.reflect.Method;
import java.lang.reflect.Modifier;
import java.nio.file.Files;
import java.nio.file.Path;
import java.util.ArrayList;
import java.util.Arrays;
import java.util.Collections;
import java.util.HashSet;
import java.util.List;
import java.util.Set;
import java.util.regex.Matcher;
import java.util.regex.Pattern;

/** The public face as the document shows it, and the rules of LANGUAGE.md that can be seen from outside. */
public final class FaceTest {
    private static final String SOURCE = "src/main/java/EchoPaysRent.java";
    private static final String[] FACE = {
        "write(int,long)", "wipe()", "fault()", "lay()", "face(int,int)", "word(int,int)",
        "heard(int,int)", "clear(int)", "rent()", "place(int)", "go(int,int)", "snow(int)",
        "say(int,int,int)", "undo()", "leftOut()", "talk(int)", "noTalk()", "lines(int)",
        "second(int)", "thick()", "heckle(int,int,int)", "ear(int,int,int)", "noEars()",
        "stood(int)", "moved()", "evening(int)", "keep()", "back()", "count(int)",
    };

    private FaceTest() {
    }

    public static void main(String[] args) throws IOException {
        constants();
        methods();
        membersOfThePublicClass();
        classesInside();
        source();
        Due.finish("FaceTest");
    }

    private static void constants() {
        Due.due("BAD", EchoPaysRent.BAD, -1);
        Due.due("NO", EchoPaysRent.NO, -2);
        Due.due("FULL", EchoPaysRent.FULL, -3);
        Due.due("NONE", EchoPaysRent.NONE, -4);
    }

    private static void methods() {
        List<String> due = new ArrayList<>(Arrays.asList(FACE));
        List<String> found = new ArrayList<>();
        Set<String> names = new HashSet<>();
        for (Method method : EchoPaysRent.class.getDeclaredMethods()) {
            if (Modifier.isPublic(method.getModifiers())) {
                found.add(signature(method));
                names.add(method.getName());
                Due.due(method + " answers an int", method.getReturnType() == int.class ? 1 : 0, 1);
                Due.due(method + " is not static", Modifier.isStatic(method.getModifiers()) ? 1 : 0, 0);
            }
        }
        Collections.sort(due);
        Collections.sort(found);
        Due.due("the methods " + found, found.equals(due) ? 1 : 0, 1);
        for (Class<?> type : allClasses()) {
            for (Method method : type.getDeclaredMethods()) {
                boolean own = type == EchoPaysRent.class && Modifier.isPublic(method.getModifiers());
                Due.due(method + " bears a public name", !own && names.contains(method.getName()) ? 1 : 0, 0);
                Due.due(method + " has too many parameters", method.getParameterCount() > 7 ? 1 : 0, 0);
            }
        }
    }

    private static String signature(Method method) {
        List<String> types = new ArrayList<>();
        for (Class<?> type : method.getParameterTypes()) {
            types.add(type.getName());
        }
        return method.getName() + "(" + String.join(",", types) + ")";
    }

    private static List<Class<?>> allClasses() {
        List<Class<?>> all = new ArrayList<>();
        all.add(EchoPaysRent.class);
        all.addAll(Arrays.asList(EchoPaysRent.class.getDeclaredClasses()));
        return all;
    }

    private static void membersOfThePublicClass() {
        int modifiers = EchoPaysRent.class.getModifiers();
        Due.due("the class is public and final", modifiers & (Modifier.PUBLIC | Modifier.FINAL), 17);
        Set<String> constants = Set.of("BAD", "NO", "FULL", "NONE");
        for (Field field : EchoPaysRent.class.getDeclaredFields()) {
            int due = constants.contains(field.getName()) ? Modifier.PUBLIC : Modifier.PRIVATE;
            Due.due("the reach of " + field, field.getModifiers() & 7, due);
        }
        for (Method method : EchoPaysRent.class.getDeclaredMethods()) {
            int due = Modifier.isPublic(method.getModifiers()) ? Modifier.PUBLIC : Modifier.PRIVATE;
            Due.due("the reach of " + method, method.getModifiers() & 7, due);
        }
        Constructor<?>[] constructors = EchoPaysRent.class.getDeclaredConstructors();
        Due.due("the constructors", constructors.length, 1);
        Due.due("the constructor is public", constructors[0].getModifiers() & 7, Modifier.PUBLIC);
        Due.due("its parameters", constructors[0].getParameterCount(), 0);
    }

    private static void classesInside() {
        Due.due("at most twelve classes", allClasses().size() <= 12 ? 1 : 0, 1);
        for (Class<?> type : allClasses()) {
            if (type != EchoPaysRent.class) {
                int modifiers = type.getModifiers();
                Due.due(type + " is static", Modifier.isStatic(modifiers) ? 1 : 0, 1);
                int reach = modifiers & (Modifier.PUBLIC | Modifier.PROTECTED);
                Due.due(type + " is not to be seen", reach, 0);
            }
            int fields = 0;
            for (Field field : type.getDeclaredFields()) {
                boolean isStatic = Modifier.isStatic(field.getModifiers());
                fields += isStatic ? 0 : 1;
                Due.due(field + " static, not final", isStatic && !Modifier.isFinal(field.getModifiers()) ? 1 : 0, 0);
            }
            Due.due("at most twenty fields in " + type, fields <= 20 ? 1 : 0, 1);
        }
    }

    private static void source() throws IOException {
        String text = Files.readString(Path.of(SOURCE));
        String code = text.replaceAll("(?s)/\\*.*?\\*/", "").replaceAll("//[^\n]*", "");
        String[] ruledOut = {"\\bthrow\\b", "\\btry\\b", "\\bcatch\\b", "\\bsynchronized\\b", "\\bassert\\b",
            "->", "::", "\\bpackage\\b", "\\b[a-zA-Z]*Exact\\b", "\\bSystem\\.(?!arraycopy)", "\\bThread\\b",
            "\\bRandom\\b", "\\bprotected\\b", "\\bMap\\b", "\\bdouble\\b", "\"", "\\bstatic \\{", "\\bvolatile\\b"};
        for (String word : ruledOut) {
            Due.due("in the source: " + word, Pattern.compile(word).matcher(code).find() ? 1 : 0, 0);
        }
        Matcher imports = Pattern.compile("\\bimport ([^;]*);").matcher(code);
        while (imports.find()) {
            boolean good = Set.of("java.util.Arrays", "java.util.ArrayList", "java.util.List").contains(imports.group(1));
            Due.due("import " + imports.group(1), good ? 1 : 0, 1);
        }
        for (char sign : text.toCharArray()) {
            if (sign > 126) {
                Due.due("a sign of the source", sign, 126);
            }
        }
    }
}
