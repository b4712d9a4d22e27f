import java.io.IOException;
import java.lang.reflect.Constructor;
import java.lang.reflect.Field;
import java.lang.reflect.Method;
import java.lang.reflect.Modifier;
import java.nio.file.Files;
import java.nio.file.Path;
import java.util.ArrayList;
import java.util.Arrays;
import java.util.HashSet;
import java.util.List;
import java.util.Set;
import java.util.TreeSet;

/** The public face, member by member, and what of LANGUAGE.md can be seen by simple means. */
public final class FaceTest {
    private static final String[] FACE = {
        "asked(int,int):int throws IndexOutOfBoundsException,IllegalStateException,IllegalArgumentException",
        "clear():void",
        "count(int):int throws IndexOutOfBoundsException",
        "differing():int",
        "edit(int,int):int throws IndexOutOfBoundsException,IllegalStateException",
        "input():int throws IllegalStateException",
        "keep(int,boolean):boolean throws IndexOutOfBoundsException",
        "length():int throws IllegalStateException",
        "literal(int,int):int throws IndexOutOfBoundsException",
        "make():int throws IllegalStateException",
        "matched(int):int throws IndexOutOfBoundsException",
        "old(int,int):int throws IndexOutOfBoundsException,IllegalStateException,IllegalArgumentException",
        "output(int,int):int throws IndexOutOfBoundsException,IllegalStateException,IllegalArgumentException",
        "place(int,long,long):boolean throws IndexOutOfBoundsException,IllegalArgumentException",
        "run(int):int throws IllegalArgumentException",
        "spare(long,long):int throws IllegalStateException,IllegalArgumentException",
        "undo():boolean",
        "used(int):int throws IllegalStateException,IndexOutOfBoundsException",
        "value(int,int):int throws IndexOutOfBoundsException",
        "witness(int):int throws IndexOutOfBoundsException",
    };

    private static final Checks checks = new Checks();

    public static void main(String[] args) throws IOException {
        methodsAreThoseOfTheFace();
        otherMembersArePrivate();
        innerClassesKeepTheRules();
        sourceHoldsNothingForbidden(Path.of("src/main/java/LeastEdits.java"));
        checks.end();
    }

    private static void methodsAreThoseOfTheFace() {
        Set<String> found = new TreeSet<>();
        for (Method method : LeastEdits.class.getDeclaredMethods()) {
            if (Modifier.isPublic(method.getModifiers())) {
                found.add(described(method));
            }
        }
        Set<String> wanted = new TreeSet<>(Arrays.asList(FACE));
        for (String line : wanted) {
            checks.due("the face has " + line, found.contains(line), true);
        }
        checks.due("methods of the face", found.size(), wanted.size());
        checks.due("NONE", LeastEdits.NONE, -1);
        checks.due("the class is public and final",
            LeastEdits.class.getModifiers(), Modifier.PUBLIC | Modifier.FINAL);
    }

    private static String described(Method method) {
        List<String> takes = new ArrayList<>();
        for (Class<?> type : method.getParameterTypes()) {
            takes.add(type.getSimpleName());
        }
        List<String> throwing = new ArrayList<>();
        for (Class<?> type : method.getExceptionTypes()) {
            throwing.add(type.getSimpleName());
        }
        return method.getName() + "(" + String.join(",", takes) + "):"
            + method.getReturnType().getSimpleName()
            + (throwing.isEmpty() ? "" : " throws " + String.join(",", throwing));
    }

    private static void otherMembersArePrivate() {
        Set<String> faceNames = new HashSet<>();
        for (String line : FACE) {
            faceNames.add(line.substring(0, line.indexOf('(')));
        }
        for (Method method : LeastEdits.class.getDeclaredMethods()) {
            if (!Modifier.isPublic(method.getModifiers())) {
                checks.due(method + " is private", Modifier.isPrivate(method.getModifiers()), true);
                checks.due(method + " bears a public name", faceNames.contains(method.getName()), false);
            }
        }
        for (Field field : LeastEdits.class.getDeclaredFields()) {
            boolean isNone = field.getName().equals("NONE");
            checks.due(field + " is hidden", Modifier.isPrivate(field.getModifiers()), !isNone);
            if (Modifier.isStatic(field.getModifiers())) {
                checks.due(field + " is final", Modifier.isFinal(field.getModifiers()), true);
            }
        }
        Constructor<?>[] constructors = LeastEdits.class.getDeclaredConstructors();
        checks.due("constructors", constructors.length, 1);
        checks.due("the constructor takes", constructors[0].getParameterCount(), 0);
        checks.due("the constructor is public", Modifier.isPublic(constructors[0].getModifiers()), true);
    }

    private static void innerClassesKeepTheRules() {
        Set<String> faceNames = new HashSet<>();
        for (Method method : LeastEdits.class.getMethods()) {
            if (method.getDeclaringClass() == LeastEdits.class) {
                faceNames.add(method.getName());
            }
        }
        Class<?>[] inside = LeastEdits.class.getDeclaredClasses();
        checks.due("some twelve classes at most", inside.length < 12, true);
        for (Class<?> type : inside) {
            checks.due(type + " is public", Modifier.isPublic(type.getModifiers()), false);
            checks.due(type + " is static", Modifier.isStatic(type.getModifiers()), true);
            checks.due(type + " has some twenty fields at most", type.getDeclaredFields().length <= 20, true);
            for (Method method : type.getDeclaredMethods()) {
                checks.due(method + " bears a public name", faceNames.contains(method.getName()), false);
                checks.due(method + " takes 7 at most", method.getParameterCount() <= 7, true);
            }
        }
    }

    private static void sourceHoldsNothingForbidden(Path source) throws IOException {
        String text = Files.readString(source);
        String code = text.replaceAll("(?s)/\\*.*?\\*/", " ").replaceAll("//[^\n]*", " ");
        String[] forbidden = {
            "->", "::", "import ", "package ", "assert ", "synchronized", "finally", "instanceof",
            "String.format", "Exact(", "System.currentTimeMillis", "System.nanoTime", "Random",
            "System.out", "getMessage", "hashCode", "toString", "double ", "float ",
        };
        for (String sign : forbidden) {
            checks.due("the source holds " + sign, code.contains(sign), false);
        }
    }
}
