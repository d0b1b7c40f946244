import java.lang.reflect.Constructor;
import java.lang.reflect.Field;
import java.lang.reflect.Method;
import java.lang.reflect.Modifier;
import java.nio.charset.StandardCharsets;
import java.nio.file.Files;
import java.nio.file.Path;
import java.util.Arrays;
import java.util.Set;
import java.util.TreeSet;
import java.util.regex.Matcher;
import java.util.regex.Pattern;

/** The public face, and the rules of LANGUAGE.md that can be looked up in the source. */
public final class FaceTest {
    private static final Checks CHECKS = new Checks();
    private static final String[] METHODS = {
        "int tilt(int,int)", "int pour(int,int,int,int)", "int jolt(int)", "int emptyPan(int)",
        "int setGrip(int,int)", "int set(int,int)", "int pass(int)", "int type(char)", "int clearText()",
        "int perform()", "int stopped(int)", "int undo()", "int keep()", "int restore()",
        "int grains(int,int,int)", "int board(int,int)", "int pan(int,int)", "int kind(int,int)",
        "int needs(int,int,int)", "int reason(int,int,int)", "int leastAngle(int)", "int restsIn(int)",
        "int ifTilted(int,int,int)", "int clearingAngle(int)", "int weighs(int,int,boolean)", "int count(int)"
    };
    private static final String[] FORBIDDEN = {
        "\\bthrow\\b", "\\btry\\b", "\\bcatch\\b", "\\bsynchronized\\b", "\\bassert\\b", "->", "::",
        "\\bimport\\b", "\\bpackage\\b", "\\bstatic\\s*\\{", "\\bequals\\b", "\\bhashCode\\b", "\\btoString\\b",
        "\\bSystem\\.(?!arraycopy\\b)", "\\bThread\\b", "\\w+Exact\\b", "\\bObject\\b", "[^\\x00-\\x7f]", "\""
    };
    private static final int MOST_LINES = 60;

    public static void main(String[] args) throws Exception {
        constants();
        members();
        names();
        rules();
        library();
        CHECKS.end("FaceTest");
    }

    private static void constants() {
        CHECKS.due("UNKNOWN", TiltBoards.UNKNOWN, -1);
        CHECKS.due("BAD_VALUE", TiltBoards.BAD_VALUE, -2);
        CHECKS.due("FULL", TiltBoards.FULL, -3);
        CHECKS.due("NOT_POSSIBLE", TiltBoards.NOT_POSSIBLE, -4);
        CHECKS.due("NONE", TiltBoards.NONE, -5);
    }

    private static void members() {
        CHECKS.due("the class is public and final", TiltBoards.class.getModifiers(), Modifier.PUBLIC | Modifier.FINAL);
        Constructor<?>[] constructors = TiltBoards.class.getDeclaredConstructors();
        CHECKS.due("constructors", constructors.length, 1);
        CHECKS.due("public constructor without parameters",
                Modifier.isPublic(constructors[0].getModifiers()) && constructors[0].getParameterCount() == 0);
        Set<String> fields = new TreeSet<>();
        for (Field field : TiltBoards.class.getDeclaredFields()) {
            if (!Modifier.isPrivate(field.getModifiers())) {
                fields.add(field.getName());
            }
            if (Modifier.isStatic(field.getModifiers())) {
                CHECKS.due(field.getName() + " is final", Modifier.isFinal(field.getModifiers()));
            }
        }
        CHECKS.due("no field but the constants: " + fields,
                fields.equals(Set.of("UNKNOWN", "BAD_VALUE", "FULL", "NOT_POSSIBLE", "NONE")));
        Set<String> methods = new TreeSet<>();
        for (Method method : TiltBoards.class.getDeclaredMethods()) {
            if (!Modifier.isPrivate(method.getModifiers())) {
                CHECKS.due(method.getName() + " is public", method.getModifiers(), Modifier.PUBLIC);
                methods.add(signature(method));
            }
        }
        CHECKS.due("the methods of the face: " + methods, methods.equals(new TreeSet<>(Arrays.asList(METHODS))));
    }

    private static String signature(Method method) {
        StringBuilder signature = new StringBuilder(method.getReturnType() + " " + method.getName() + "(");
        String comma = "";
        for (Class<?> type : method.getParameterTypes()) {
            signature.append(comma).append(type);
            comma = ",";
        }
        return signature.append(")").toString();
    }

    private static void names() {
        Set<String> face = new TreeSet<>();
        for (String method : METHODS) {
            face.add(method.substring(4, method.indexOf('(')));
        }
        for (Method method : TiltBoards.class.getDeclaredMethods()) {
            if (Modifier.isPrivate(method.getModifiers())) {
                CHECKS.due("private " + method.getName() + " bears a public name", !face.contains(method.getName()));
            }
            CHECKS.due("parameters of " + method.getName(), method.getParameterCount() <= 7);
        }
        Class<?>[] inside = TiltBoards.class.getDeclaredClasses();
        CHECKS.due("classes", inside.length < 12);
        for (Class<?> nested : inside) {
            CHECKS.due(nested.getName() + " is static", Modifier.isStatic(nested.getModifiers()));
            CHECKS.due(nested.getName() + " is not public", !Modifier.isPublic(nested.getModifiers()));
            CHECKS.due("fields of " + nested.getName(), nested.getDeclaredFields().length <= 20);
            CHECKS.due("no class in " + nested.getName(), nested.getDeclaredClasses().length, 0);
            for (Method method : nested.getDeclaredMethods()) {
                CHECKS.due(nested.getName() + "." + method.getName(), !face.contains(method.getName()));
            }
        }
    }

    private static String source() throws Exception {
        return Files.readString(Path.of("src/main/java/TiltBoards.java"), StandardCharsets.UTF_8);
    }

    private static String code() throws Exception {
        return source().replaceAll("(?s)/\\*.*?\\*/", "").replaceAll("//[^\n]*", "");
    }

    /** Rule 4: nothing but what is listed there; rows are copied by the library if they are of numbers. */
    private static void library() throws Exception {
        String code = code();
        Set<String> known = new TreeSet<>(Set.of("TiltBoards", "System", "Math"));
        for (Class<?> nested : TiltBoards.class.getDeclaredClasses()) {
            known.add(nested.getSimpleName());
        }
        Matcher name = Pattern.compile("\\b[A-Z]\\w*[a-z]\\w*").matcher(code);
        while (name.find()) {
            CHECKS.due("the class " + name.group(), known.contains(name.group()));
        }
        Matcher copy = Pattern.compile("\\barraycopy\\((\\w+)\\.(\\w+), 0, (\\w+), 0,").matcher(code);
        int copies = 0;
        while (copy.find()) {
            CHECKS.due(copy.group() + " copies to its like", copy.group(2).equals(copy.group(3)));
            CHECKS.due(copy.group() + " copies numbers", isRowOfNumbers(copy.group(2)));
            copies++;
        }
        CHECKS.due("copies by the library", copies, code.split("\\barraycopy\\b", -1).length - 1);
    }

    private static boolean isRowOfNumbers(String field) {
        for (Class<?> nested : TiltBoards.class.getDeclaredClasses()) {
            for (Field inside : nested.getDeclaredFields()) {
                if (inside.getName().equals(field) && inside.getType() != int[].class) {
                    return false;
                }
            }
        }
        return true;
    }

    private static void rules() throws Exception {
        String source = source();
        String code = code();
        for (String forbidden : FORBIDDEN) {
            Matcher matcher = Pattern.compile(forbidden).matcher(code);
            CHECKS.due("no " + forbidden + " in the source", !matcher.find());
        }
        int start = 0;
        String[] lines = source.split("\n");
        for (int line = 0; line < lines.length; line++) {
            if (lines[line].matches(" {4}( {4})?[a-zA-Z].*\\) \\{")) {
                start = line;
            } else if (lines[line].matches(" {4}( {4})?\\}")) {
                CHECKS.due("the method up to line " + (line + 1) + " is short", line - start < MOST_LINES || start == 0);
                start = 0;
            }
        }
    }
}
