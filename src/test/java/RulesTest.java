import java.io.IOException;
import java.lang.reflect.Constructor;
import java.lang.reflect.Field;
import java.lang.reflect.Method;
import java.lang.reflect.Modifier;
import java.nio.file.Files;
import java.nio.file.Path;
import java.util.List;
import java.util.TreeSet;
import java.util.regex.Matcher;
import java.util.regex.Pattern;

/** The public face of the class, and those rules of LANGUAGE.md that a look can tell. */
public final class RulesTest {
    private static final Checks CHECKS = new Checks();
    private static final Path SOURCE = Path.of("src/main/java/ChordSheet.java");
    private static final int MAX_CLASSES = 12;
    private static final int MAX_FIELDS = 20;
    private static final int MAX_PARAMETERS = 7;
    private static final int MAX_LINES = 60;
    private static final String FACE = "int type(int) IllegalArgumentException"
            + " IllegalStateException;int clearText();int read();boolean setSimple(boolean);"
            + "boolean setFlats(boolean);int setWidth(int) IllegalArgumentException;int lines();"
            + "int lyrics(int) IndexOutOfBoundsException;"
            + "int lyric(int,int) IndexOutOfBoundsException;int chords();"
            + "int lineOf(int) IndexOutOfBoundsException;"
            + "int columnOf(int) IndexOutOfBoundsException;"
            + "int rootOf(int) IndexOutOfBoundsException;"
            + "int qualityOf(int) IndexOutOfBoundsException;"
            + "int bassOf(int) IndexOutOfBoundsException;"
            + "int nameChar(int,int) IndexOutOfBoundsException;"
            + "int setChord(int) IndexOutOfBoundsException;"
            + "int addChord(int,int) IndexOutOfBoundsException IllegalStateException;"
            + "int removeChord(int) IndexOutOfBoundsException;"
            + "int moveChord(int,int) IndexOutOfBoundsException;"
            + "int commonTones(int) IndexOutOfBoundsException;"
            + "int degree(int) IndexOutOfBoundsException;int tonic();boolean isMinor();"
            + "int signature();int setKey(int,boolean) IllegalArgumentException;"
            + "int score(int,boolean) IllegalArgumentException;int findKey();"
            + "int transpose(int) IllegalArgumentException;int respell();"
            + "int difficulty(int) IllegalArgumentException;int bestCapo();"
            + "int pairs(int) IndexOutOfBoundsException;"
            + "int rowLength(int,int,int) IndexOutOfBoundsException;"
            + "int rowChar(int,int,int,int) IndexOutOfBoundsException;"
            + "int undo() IllegalStateException;long fingerprint();";

    public static void main(String[] args) throws IOException {
        methods();
        otherMembers();
        sizes(ChordSheet.class);
        int classes = 1;
        for (Class<?> inner : ChordSheet.class.getDeclaredClasses()) {
            sizes(inner);
            classes++;
        }
        CHECKS.due("at most 12 classes", true, classes <= MAX_CLASSES);
        source();
        methodLengths();
        CHECKS.end("RulesTest");
    }

    private static void methods() {
        TreeSet<String> due = new TreeSet<>();
        for (String line : FACE.split(";")) {
            due.add(line);
        }
        TreeSet<String> publicNames = new TreeSet<>();
        TreeSet<String> got = new TreeSet<>();
        for (Method method : ChordSheet.class.getDeclaredMethods()) {
            if (Modifier.isPublic(method.getModifiers())) {
                got.add(told(method));
                publicNames.add(method.getName());
            }
        }
        CHECKS.due("the face", due.toString(), got.toString());
        for (Method method : ChordSheet.class.getDeclaredMethods()) {
            boolean isPublic = Modifier.isPublic(method.getModifiers());
            CHECKS.due(method.getName() + " is public or private", true,
                    isPublic || Modifier.isPrivate(method.getModifiers()));
            CHECKS.due(method.getName() + " has a name of its own", true,
                    isPublic || !publicNames.contains(method.getName()));
        }
    }

    private static String told(Method method) {
        StringBuilder told = new StringBuilder();
        told.append(method.getReturnType()).append(' ').append(method.getName()).append('(');
        for (Class<?> parameter : method.getParameterTypes()) {
            told.append(told.charAt(told.length() - 1) == '(' ? "" : ",").append(parameter);
        }
        told.append(')');
        for (Class<?> exception : method.getExceptionTypes()) {
            told.append(' ').append(exception.getSimpleName());
        }
        return told.toString();
    }

    private static void otherMembers() {
        CHECKS.due("the class is final", true, Modifier.isFinal(ChordSheet.class.getModifiers()));
        Constructor<?>[] constructors = ChordSheet.class.getDeclaredConstructors();
        CHECKS.due("constructors", 1, constructors.length);
        CHECKS.due("its parameters", 0, constructors[0].getParameterCount());
        CHECKS.due("it is public", true, Modifier.isPublic(constructors[0].getModifiers()));
        for (Field field : ChordSheet.class.getDeclaredFields()) {
            int modifiers = field.getModifiers();
            CHECKS.due(field.getName() + " is private", true, Modifier.isPrivate(modifiers));
            CHECKS.due(field.getName() + " is final if it is static", true,
                    !Modifier.isStatic(modifiers) || Modifier.isFinal(modifiers));
        }
        for (Class<?> inner : ChordSheet.class.getDeclaredClasses()) {
            CHECKS.due(inner.getName() + " is private and static", true,
                    Modifier.isPrivate(inner.getModifiers())
                    && Modifier.isStatic(inner.getModifiers()));
            for (Field field : inner.getDeclaredFields()) {
                int modifiers = field.getModifiers();
                CHECKS.due(inner.getName() + "." + field.getName() + " is final if static", true,
                        !Modifier.isStatic(modifiers) || Modifier.isFinal(modifiers));
            }
        }
    }

    /** Rule 11: the parameters of methods and the fields of a class beside its constants. */
    private static void sizes(Class<?> type) {
        int fields = 0;
        for (Field field : type.getDeclaredFields()) {
            fields += Modifier.isStatic(field.getModifiers()) ? 0 : 1;
        }
        CHECKS.due(type.getName() + " has at most 20 fields", true, fields <= MAX_FIELDS);
        for (Method method : type.getDeclaredMethods()) {
            CHECKS.due(type.getName() + "." + method.getName() + " has at most 7 parameters", true,
                    method.getParameterCount() <= MAX_PARAMETERS);
        }
    }

    /** Rule 11 once more: a method begins with a "{" and ends with a "}" as deep as itself. */
    private static void methodLengths() throws IOException {
        int longest = 0;
        int begin = 0;
        String end = "";
        List<String> lines = Files.readAllLines(SOURCE);
        for (int n = 0; n < lines.size(); n++) {
            String line = lines.get(n);
            if (line.matches(" +([a-zA-Z\\[\\]]+ )+[a-zA-Z]+\\(.*") && !line.contains(";")) {
                begin = n;
                end = line.substring(0, line.indexOf(line.strip())) + "}";
            } else if (line.equals(end)) {
                longest = Math.max(longest, n - begin + 1);
            }
        }
        CHECKS.due("there are methods", true, longest > 1);
        CHECKS.due("at most 60 lines a method", true, longest <= MAX_LINES);
    }

    private static void source() throws IOException {
        String source = Files.readString(SOURCE);
        String[] refused = {"\\bimport\\b", "\\bpackage\\b", "->", "::", "\\bfinally\\b",
            "\\bcatch\\b", "\\btry\\b", "\\bsynchronized\\b", "\\bassert\\b", "Exact\\(",
            "\\bequals\\(", "\\bhashCode\\b", "\\btoString\\(", "\\bSystem\\.(?!arraycopy)",
            "\\bRandom\\b", "\\bThread\\b", "\\bprotected\\b", "\\bordinal\\(", "\\bdouble\\b",
            "\\bfloat\\b", "static \\{", "\" \\+", "\\+ \""};
        for (String words : refused) {
            Matcher matcher = Pattern.compile(words).matcher(source);
            CHECKS.due("'" + words + "' in the source", false, matcher.find());
        }
        CHECKS.due("only signs below 128", true, source.chars().allMatch(c -> c < 128));
    }
}
