import java.io.IOException;
import java.lang.reflect.Constructor;
import java.lang.reflect.Field;
import java.lang.reflect.Method;
import java.lang.reflect.Modifier;
import java.nio.file.Files;
import java.nio.file.Path;
import java.util.ArrayList;
import java.util.List;
import java.util.Set;
import java.util.TreeSet;
import java.util.regex.Matcher;
import java.util.regex.Pattern;

/** The public face of the document, and those rules of the language that can be looked up. */
public final class FaceTest {
    private static final String I = "IndexOutOfBoundsException";
    private static final String A = "IllegalArgumentException";
    private static final String S = "IllegalStateException";
    private static final String[] FACE = {
        "int area(int,int) " + I + " " + A + " " + S,
        "boolean gate(int,boolean) " + I,
        "boolean cover(int,boolean) " + I,
        "int pass(int,int,int,int) " + A + " " + S,
        "int skim(int) " + I,
        "int drain(int) " + I + " " + S,
        "int pump(int,int,int) " + I + " " + A + " " + S,
        "int family() " + S,
        "int right(int,int,int) " + I + " " + A + " " + S,
        "int harvest(int,boolean) " + I + " " + S,
        "int flower(int) " + I + " " + S,
        "int wash(int) " + I + " " + S,
        "int sell(int,int,int) " + I + " " + A + " " + S,
        "int ofPond(int,int) " + I + " " + A,
        "int ofFamily(int,int) " + I + " " + A,
        "int rightOf(int,int) " + I,
        "int tide(int) " + A,
        "int many(int) " + A,
        "double meanStrength()",
        "int crustIn(int,int,int) " + I + " " + A,
        "int bestGates(int,int,int) " + A,
        "int wouldBe(int,boolean,int) " + I,
        "int tideOn(int,boolean) " + A,
        "long digest()"};
    private static final String[] LEFT_OUT = {
        "\\btry\\b", "\\bcatch\\b", "\\bfinally\\b", "\\bsynchronized\\b", "\\bassert\\b", "\\bimport\\b", "\\bpackage\\b",
        "->", "::", "\\bstatic \\{", "System\\.", "Exact\\b", "\\btoString\\b", "\\bhashCode\\b", "\\bequals\\b", "\" \\+", "\\+ \""};

    private static int wrong = 0;

    public static void main(String[] args) throws IOException {
        faceIsThatOfTheDocument();
        nothingElseIsSeen();
        fieldsAreFew(SaltRow.class);
        for (Class<?> inside : SaltRow.class.getDeclaredClasses()) {
            insideIsItsOwn(inside);
            fieldsAreFew(inside);
        }
        sourceKeepsTheRules(Files.readString(Path.of("src/main/java/SaltRow.java")));
        System.out.println(wrong == 0 ? "the face is as due" : wrong + " things are not as due");
        if (wrong != 0) {
            System.exit(1);
        }
    }

    private static void due(String what, Object got, Object want) {
        if (!String.valueOf(got).equals(String.valueOf(want))) {
            wrong++;
            System.out.println(what + ": " + got + ", due is " + want);
        }
    }

    private static void faceIsThatOfTheDocument() {
        due("the class", Modifier.toString(SaltRow.class.getModifiers()), "public final");
        Set<String> is = new TreeSet<>();
        for (Method method : SaltRow.class.getDeclaredMethods()) {
            if (!Modifier.isPrivate(method.getModifiers())) {
                due("how " + method.getName() + " is seen", Modifier.toString(method.getModifiers()), "public");
                is.add(told(method));
            }
        }
        Set<String> want = new TreeSet<>(List.of(FACE));
        due("the methods", is, want);
        Constructor<?>[] all = SaltRow.class.getDeclaredConstructors();
        due("constructors", all.length, 1);
        due("the constructor", Modifier.toString(all[0].getModifiers()) + all[0].getParameterCount(), "public0");
    }

    private static String told(Method method) {
        List<String> types = new ArrayList<>();
        for (Class<?> type : method.getParameterTypes()) {
            types.add(type.getSimpleName());
        }
        StringBuilder text = new StringBuilder(method.getReturnType().getSimpleName() + " " + method.getName()
                + "(" + String.join(",", types) + ")");
        for (Class<?> exception : method.getExceptionTypes()) {
            text.append(' ').append(exception.getSimpleName());
        }
        return text.toString();
    }

    private static void nothingElseIsSeen() {
        Set<String> names = new TreeSet<>();
        for (Method method : SaltRow.class.getDeclaredMethods()) {
            boolean isNew = names.add(method.getName());
            due("the name " + method.getName() + " is given once", isNew, true);
        }
        for (Field field : SaltRow.class.getDeclaredFields()) {
            due("how the field " + field.getName() + " is seen", Modifier.isPrivate(field.getModifiers()), true);
        }
    }

    private static void insideIsItsOwn(Class<?> inside) {
        due(inside + " is static", Modifier.isStatic(inside.getModifiers()), true);
        due(inside + " is not public", Modifier.isPublic(inside.getModifiers()), false);
        for (Method method : inside.getDeclaredMethods()) {
            for (String call : FACE) {
                boolean isSame = call.contains(" " + method.getName() + "(");
                due(inside + " has a method with the name of a public one, " + method.getName(), isSame, false);
            }
        }
    }

    private static void fieldsAreFew(Class<?> of) {
        int count = 0;
        for (Field field : of.getDeclaredFields()) {
            boolean isStatic = Modifier.isStatic(field.getModifiers());
            count += isStatic ? 0 : 1;
            due(field + " is final, if static", isStatic && !Modifier.isFinal(field.getModifiers()), false);
        }
        due(of + " has some twenty fields at most", count <= 20, true);
    }

    private static void sourceKeepsTheRules(String source) {
        for (String rule : LEFT_OUT) {
            Matcher found = Pattern.compile(rule).matcher(source);
            due("left out by the language: " + rule, found.find(), false);
        }
        for (int k = 0; k < source.length(); k++) {
            due("a sign of the source at " + k, source.charAt(k) < 128, true);
        }
        Matcher thrown = Pattern.compile("throw (?!new (" + I + "|" + A + "|" + S + ")\\(\"[^\"]*\"\\);)").matcher(source);
        due("another throw", thrown.find(), false);
        int since = 0;
        String[] lines = source.split("\n");
        for (int k = 0; k < lines.length; k++) {
            if (lines[k].endsWith("{") && !lines[k].matches("\\s*(for|if|while|switch|\\} else).*")) {
                since = k;
            }
            due("line " + k + " is in a short method", k - since <= 60, true);
        }
    }
}
