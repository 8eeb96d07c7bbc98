import java.io.IOException;
import java.lang.reflect.Constructor;
import java.lang.reflect.Field;
import java.lang.reflect.Method;
import java.lang.reflect.Modifier;
import java.nio.file.Files;
import java.nio.file.Path;
import java.util.Arrays;
import java.util.TreeSet;
import java.util.regex.Matcher;
import java.util.regex.Pattern;

/** The face of the class, and what LANGUAGE.md rules out and a look at the words can find. */
final class FaceTest {
    private static final String[] FACE = {
        "int begin(int, int) IllegalArgumentException",
        "int set(int, int) IllegalArgumentException",
        "int value(int) IllegalArgumentException",
        "int setCurve(int, int, int) IndexOutOfBoundsException IllegalArgumentException",
        "int curve(int, boolean) IndexOutOfBoundsException",
        "int measure(int, int, int) IllegalArgumentException",
        "int repeat(int, int, int, int) IllegalArgumentException",
        "int simulate(int, int, int, int) IllegalArgumentException",
        "long charge(int) IllegalArgumentException",
        "int soc(int) IllegalArgumentException",
        "int status(int) IllegalArgumentException",
        "long throughput()",
        "double cycles()",
        "int healthBits()",
        "int openVoltage(int, int) IllegalArgumentException",
        "int invert(int, int) IllegalArgumentException",
        "int anchors()",
        "int anchor(int, int) IndexOutOfBoundsException IllegalArgumentException",
        "long boundAfter(int, int, boolean) IllegalArgumentException",
        "int reaches(int) IllegalArgumentException",
        "int lasts(int, int) IllegalArgumentException",
        "int wouldAnchor(int, int, int, int) IllegalArgumentException",
        "int append(int) IllegalArgumentException IllegalStateException",
        "int clearText()",
        "int replay()",
        "int undo() IllegalStateException",
        "long digest()",
    };

    /** Words of Java and of its library that have no place in the program. */
    private static final String[] RULED_OUT = {
        "import", "package", "synchronized", "assert", "finally", "protected", "volatile", "transient", "native",
        "Float\\.", "Double\\.", "Character\\.", "System\\.(?!arraycopy)", "Thread", "Random", "Object", "Exact",
        "->", "::", "getMessage", "printStackTrace", "Throwable", "NullPointerException",
        "ArrayIndexOutOfBoundsException", "NegativeArraySizeException", "ClassCastException", "ArrayStoreException",
        "equals\\(", "hashCode", "toString", "Override", "catch", "static \\{",
    };

    public static void main(String[] args) throws IOException {
        face();
        insides();
        words();
        Check.end();
    }

    private static String signature(Method m) {
        StringBuilder made = new StringBuilder();
        made.append(m.getReturnType().getSimpleName()).append(' ').append(m.getName()).append('(');
        Class<?>[] parameters = m.getParameterTypes();
        for (int i = 0; i < parameters.length; i++) {
            made.append(i == 0 ? "" : ", ").append(parameters[i].getSimpleName());
        }
        made.append(')');
        for (Class<?> e : m.getExceptionTypes()) {
            made.append(' ').append(e.getSimpleName());
        }
        return made.toString();
    }

    private static void face() {
        Class<?> face = ChargeEstimator.class;
        TreeSet<String> due = new TreeSet<>(Arrays.asList(FACE));
        TreeSet<String> got = new TreeSet<>();
        for (Method m : face.getDeclaredMethods()) {
            if (!Modifier.isPrivate(m.getModifiers())) {
                Check.dueThat(m + " is public and of the object", m.getModifiers() == Modifier.PUBLIC);
                got.add(signature(m));
            }
        }
        Check.due("the methods", got.toString(), due.toString());
        for (Field f : face.getDeclaredFields()) {
            Check.dueThat(f + " is private, or NONE",
                Modifier.isPrivate(f.getModifiers()) || f.toString().equals("public static final int ChargeEstimator.NONE"));
            Check.dueThat(f + " is final, if it is static",
                !Modifier.isStatic(f.getModifiers()) || Modifier.isFinal(f.getModifiers()));
        }
        Constructor<?>[] constructors = face.getDeclaredConstructors();
        Check.due("constructors", constructors.length, 1);
        Check.due("the constructor", constructors[0].toString(), "public ChargeEstimator()");
        Check.due("the class", Modifier.toString(face.getModifiers()), "public final");
    }

    private static void insides() {
        TreeSet<String> names = new TreeSet<>();
        for (String line : FACE) {
            names.add(line.substring(line.indexOf(' ') + 1, line.indexOf('(')));
        }
        Check.dueThat("some twelve classes", ChargeEstimator.class.getDeclaredClasses().length <= 11);
        for (Class<?> inside : ChargeEstimator.class.getDeclaredClasses()) {
            Check.dueThat(inside + " is private and static",
                Modifier.isPrivate(inside.getModifiers()) && Modifier.isStatic(inside.getModifiers()));
            for (Method m : inside.getDeclaredMethods()) {
                Check.dueThat(m + " has a name of its own", !names.contains(m.getName()));
                Check.dueThat(m + " is not public", !Modifier.isPublic(m.getModifiers()));
                Check.dueThat(m + " has seven parameters at most", m.getParameterCount() <= 7);
            }
            int fields = 0;
            for (Field f : inside.getDeclaredFields()) {
                boolean constant = Modifier.isStatic(f.getModifiers());
                fields += constant ? 0 : 1;
                Check.dueThat(f + " is final, if it is static", !constant || Modifier.isFinal(f.getModifiers()));
            }
            Check.dueThat(inside + " has some twenty fields", fields <= 20);
        }
        for (Method m : ChargeEstimator.class.getDeclaredMethods()) {
            Check.dueThat(m + " has a name of its own", !Modifier.isPrivate(m.getModifiers()) || !names.contains(m.getName()));
        }
    }

    private static void words() throws IOException {
        String source = Files.readString(Path.of("src/main/java/ChargeEstimator.java"));
        String code = source.replaceAll("(?s)/\\*.*?\\*/", "").replaceAll("//[^\n]*", "").replaceAll("\"[^\"\n]*\"", "\"\"");
        for (String word : RULED_OUT) {
            Matcher found = Pattern.compile("(?<![A-Za-z])" + word).matcher(code);
            Check.dueThat("no " + word + " in the program", !found.find());
        }
        for (int i = 0; i < source.length(); i++) {
            Check.dueThat("only plain signs", source.charAt(i) < 127);
        }
        Check.dueThat("no texts are joined by +", !Pattern.compile("\"\"\\s*\\+|\\+\\s*\"\"").matcher(code).find());
        Check.dueThat("no loop without a counter", !Pattern.compile("\\bwhile\\b|\\bdo\\b").matcher(code).find());
    }
}
