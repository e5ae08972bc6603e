import java.lang.reflect.Constructor;
import java.lang.reflect.Field;
import java.lang.reflect.Method;
import java.lang.reflect.Modifier;
import java.nio.file.Files;
import java.nio.file.Path;
import java.util.Arrays;
import java.util.List;
import java.util.Set;
import java.util.TreeSet;
import java.util.regex.Matcher;
import java.util.regex.Pattern;

/** The public face, and those rules of LANGUAGE.md that a look at the text can tell. */
public final class FaceTests {
    private static final Checks CHECKS = new Checks();
    private static final List<String> METHODS = List.of(
            "atom(int)", "falsehood()", "join(int, int, int)", "told(int, int)", "statements()",
            "nodes()", "prove(int, int)", "used()", "node(int, int, int, int, int)",
            "of(int, int)", "wellMade(int)", "rests(int)", "restsOn(int, int)", "proves(int)",
            "isTrue(int, int)");

    public static void main(String[] args) throws Exception {
        constants();
        members();
        nested();
        text();
        CHECKS.end();
    }

    private static void constants() {
        CHECKS.due("BAD", ProofSeeker.BAD, -1);
        CHECKS.due("NO", ProofSeeker.NO, -2);
        CHECKS.due("FULL", ProofSeeker.FULL, -3);
        CHECKS.due("OUT", ProofSeeker.OUT, -4);
    }

    private static String signature(Method method) {
        String types = Arrays.toString(method.getParameterTypes());
        return method.getName() + "(" + types.substring(1, types.length() - 1) + ")";
    }

    private static void members() {
        CHECKS.that("the class is public and final",
                Modifier.toString(ProofSeeker.class.getModifiers()).equals("public final"));
        Set<String> shown = new TreeSet<>();
        for (Method method : ProofSeeker.class.getDeclaredMethods()) {
            if (Modifier.isPrivate(method.getModifiers())) {
                continue;
            }
            CHECKS.that(signature(method) + " is public and answers int",
                    Modifier.toString(method.getModifiers()).equals("public")
                            && method.getReturnType() == int.class);
            shown.add(signature(method));
        }
        CHECKS.that("the methods are those of the document: " + shown,
                shown.equals(new TreeSet<>(METHODS)));
        Set<String> fields = new TreeSet<>();
        for (Field field : ProofSeeker.class.getDeclaredFields()) {
            if (!Modifier.isPrivate(field.getModifiers())) {
                fields.add(Modifier.toString(field.getModifiers()) + " " + field.getName());
            }
        }
        CHECKS.that("the constants are those of the document: " + fields,
                fields.equals(Set.of("public static final BAD", "public static final NO",
                        "public static final FULL", "public static final OUT")));
        Constructor<?>[] constructors = ProofSeeker.class.getDeclaredConstructors();
        CHECKS.that("one public constructor without arguments", constructors.length == 1
                && Modifier.isPublic(constructors[0].getModifiers())
                && constructors[0].getParameterCount() == 0);
    }

    private static void nested() {
        Set<String> names = new TreeSet<>();
        METHODS.forEach(method -> names.add(method.substring(0, method.indexOf('('))));
        Class<?>[] nested = ProofSeeker.class.getDeclaredClasses();
        CHECKS.that("at most twelve classes", nested.length + 1 <= 12);
        for (Class<?> inside : nested) {
            CHECKS.that(inside + " is static and not public",
                    Modifier.isStatic(inside.getModifiers())
                            && !Modifier.isPublic(inside.getModifiers())
                            && !Modifier.isProtected(inside.getModifiers()));
            for (Method method : inside.getDeclaredMethods()) {
                CHECKS.that(method + " has a name of its own", !names.contains(method.getName()));
                CHECKS.that(method + " takes at most seven", method.getParameterCount() <= 7);
            }
            for (Field field : inside.getDeclaredFields()) {
                CHECKS.that(field + " is final if it is static",
                        !Modifier.isStatic(field.getModifiers())
                                || Modifier.isFinal(field.getModifiers()));
            }
        }
    }

    private static void text() throws Exception {
        Path path = Path.of("src/main/java/ProofSeeker.java");
        String text = Files.readString(path);
        String code = text.replaceAll("(?s)/\\*.*?\\*/", "").replaceAll("//.*", "");
        String[] forbidden = {
            "->", "::", "\\bpackage\\b", "\\bassert\\b", "\\bsynchronized\\b", "\\bfinally\\b",
            "\\bthrow", "\\btry\\b", "\\bcatch\\b", "\\bSystem\\.(?!arraycopy)", "\\bRandom\\b",
            "\\bThread\\b", "\\bdouble\\b", "\\bfloat\\b", "Exact\\b", "\\bwhile\\b",
            "\\bjava\\.(?!util\\.Arrays;)", "\\bhashCode\\b", "\\btoString\\b", "\\bequals\\b"
        };
        for (String pattern : forbidden) {
            Matcher matcher = Pattern.compile(pattern).matcher(code);
            CHECKS.that("no " + pattern + " in the class", !matcher.find());
        }
        for (String line : text.split("\n")) {
            CHECKS.that("a line of at most 110: " + line, line.length() <= 110);
        }
    }
}
