import java.lang.reflect.Constructor;
import java.lang.reflect.Field;
import java.lang.reflect.Method;
import java.lang.reflect.Modifier;
import java.nio.file.Files;
import java.nio.file.Path;
import java.util.Set;
import java.util.TreeSet;
import java.util.regex.Matcher;
import java.util.regex.Pattern;

/** The class has the document's face and no other, and keeps to the rules of LANGUAGE.md that can be looked at here. */
public final class FaceTest {
    private static final String[] FACE = {
        "int row(int,int,int)", "int note(int,int)", "int share(int,int)", "int clear(int)",
        "int think(int,long)", "int card()", "int drop()", "int take(int,int)", "int lay(int,int)",
        "int size(int)", "int pour(int,int,int,int,int)", "int swap(int,int,int,int)", "int turn(int)",
        "long sum(int)", "int find(int)", "int order(int,int,int,int,int)", "int run()", "int met(int)",
        "int fault()", "int faults(int)", "int told(int,int)", "int hand()", "long value()"};
    /** Words that no rule of LANGUAGE.md leaves, and imports of what it does not list. */
    private static final Pattern FORBIDDEN = Pattern.compile(
        "\\b(throw|throws|try|catch|synchronized|assert|package|protected|hashCode|volatile|transient|native)\\b"
        + "|\\bimport (?!java\\.util\\.(ArrayList|List|Arrays|Iterator);)|->|::");

    private static final Check check = new Check();

    public static void main(String[] args) throws Exception {
        check.part("face");
        methodsAreTheFace();
        fieldsAreTheFace();
        Constructor<?>[] constructors = SeedDrawers.class.getDeclaredConstructors();
        check.due("constructors", constructors.length, 1);
        check.due("parameters of the constructor", constructors[0].getParameterCount(), 0);
        check.due("the constructor is public", constructors[0].getModifiers(), Modifier.PUBLIC);
        check.due("the class is public and final", SeedDrawers.class.getModifiers(), Modifier.PUBLIC | Modifier.FINAL);
        classesInsideAreStatic();
        sourceHasNoForbiddenWord();
        check.end();
    }

    private static void methodsAreTheFace() {
        Set<String> missing = new TreeSet<>(Set.of(FACE));
        Set<String> publicNames = new TreeSet<>();
        for (String line : FACE) {
            publicNames.add(line.substring(line.indexOf(' ') + 1, line.indexOf('(')));
        }
        for (Method method : SeedDrawers.class.getDeclaredMethods()) {
            if (method.getModifiers() == Modifier.PUBLIC) {
                if (!missing.remove(shapeOf(method))) {
                    check.fail("not of the face: " + method);
                }
            } else if (!Modifier.isPrivate(method.getModifiers()) || publicNames.contains(method.getName())) {
                check.fail("not private, or with a public method's name: " + method);
            }
        }
        check.due("missing " + missing, missing.size(), 0);
    }

    private static String shapeOf(Method method) {
        StringBuilder shape = new StringBuilder(method.getReturnType() + " " + method.getName() + "(");
        for (Class<?> type : method.getParameterTypes()) {
            shape.append(shape.charAt(shape.length() - 1) == '(' ? "" : ",").append(type);
        }
        return shape.append(")").toString();
    }

    private static void fieldsAreTheFace() {
        Set<String> constants = new TreeSet<>(Set.of("UNKNOWN", "OUTSIDE", "STATE", "NONE"));
        for (Field field : SeedDrawers.class.getDeclaredFields()) {
            int modifiers = field.getModifiers();
            boolean isConstant = constants.remove(field.getName());
            if (isConstant != Modifier.isPublic(modifiers) || !isConstant && !Modifier.isPrivate(modifiers)
                || Modifier.isStatic(modifiers) && !Modifier.isFinal(modifiers)) {
                check.fail("not a field of the face, nor private: " + field);
            }
        }
        check.due("missing " + constants, constants.size(), 0);
        check.due("UNKNOWN", SeedDrawers.UNKNOWN, -1);
        check.due("OUTSIDE", SeedDrawers.OUTSIDE, -2);
        check.due("STATE", SeedDrawers.STATE, -3);
        check.due("NONE", SeedDrawers.NONE, -9);
    }

    private static void classesInsideAreStatic() {
        for (Class<?> inside : SeedDrawers.class.getDeclaredClasses()) {
            if (!Modifier.isStatic(inside.getModifiers()) || Modifier.isPublic(inside.getModifiers())) {
                check.fail("not static, or public: " + inside);
            }
        }
    }

    private static void sourceHasNoForbiddenWord() throws Exception {
        String source = Files.readString(Path.of("src/main/java/SeedDrawers.java"));
        String code = source.replaceAll("(?s)/\\*.*?\\*/", "").replaceAll("//[^\n]*", "")
            // The arrow of a switch is no lambda's.
            .replaceAll("\\b(case [^;{}:]*?|default )->", "");
        Matcher matcher = FORBIDDEN.matcher(code);
        while (matcher.find()) {
            check.fail("the source has '" + matcher.group() + "'");
        }
    }
}
