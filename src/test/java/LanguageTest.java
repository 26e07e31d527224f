import java.io.IOException;
import java.lang.reflect.Constructor;
import java.lang.reflect.Field;
import java.lang.reflect.Method;
import java.lang.reflect.Modifier;
import java.nio.file.Files;
import java.nio.file.Path;
import java.util.Arrays;
import java.util.List;
import java.util.Set;
import java.util.TreeSet;
import java.util.regex.Matcher;
import java.util.regex.Pattern;

/** The face of the document, and the rules of ../shared/LANGUAGE.md that can be read from the source. */
public final class LanguageTest {
    private static final Check check = new Check("LanguageTest");
    private static final Path SOURCE = Path.of("src/main/java/ShuttleDoors.java");
    private static final List<String> FACE = List.of(
        "set(int,int)", "land(int,int)", "delay(int,int)", "van(int,int,int)", "ride(int,int,int,int)", "read()",
        "cancel(int)", "rebook(int,int)", "rider(int,int)", "vanOf(int,int)", "flight(int,int)", "stop(int,int,int)",
        "count(int)", "kerb(int)", "ifDelayed(int,int,int)", "mostDelay(int)", "bestMinute(int)", "fullest()",
        "put(long)", "wipe()", "fault()", "undo()", "save(int)", "restore(int)");
    private static final Set<String> TYPES = Set.of("ShuttleDoors", "State", "Plan", "Way", "Pad", "History", "Integer", "Math", "System");
    private static final String FORBIDDEN = "\\b(import|package|throw|throws|try|catch|finally|synchronized|assert|native|"
        + "transient|volatile|equals|hashCode|toString|protected|double|float|null\\s*\\)\\s*\\.)\\b|->|::|@|\"";

    public static void main(String[] args) throws IOException {
        face();
        classesInside();
        String code = withoutComments(Files.readString(SOURCE));
        Matcher forbidden = Pattern.compile(FORBIDDEN).matcher(code);
        while (forbidden.find()) {
            check.holds("the source without " + forbidden.group(), false);
        }
        Matcher type = Pattern.compile("(?<![\\w'])[A-Z]\\w*[a-z]\\w*").matcher(code);
        while (type.find()) {
            check.holds("only known types, not " + type.group(), TYPES.contains(type.group()));
        }
        methods(code.split("\n"));
        check.end();
    }

    private static void face() {
        Class<?> face = ShuttleDoors.class;
        check.holds("public and final", Modifier.isPublic(face.getModifiers()) && Modifier.isFinal(face.getModifiers()));
        TreeSet<String> publics = new TreeSet<>();
        TreeSet<String> names = new TreeSet<>();
        for (Method m : face.getDeclaredMethods()) {
            if (Modifier.isPublic(m.getModifiers())) {
                check.holds(m + " gives an int", m.getReturnType() == int.class && !Modifier.isStatic(m.getModifiers()));
                publics.add(signature(m));
                names.add(m.getName());
            }
        }
        check.holds("the methods are those of the document", publics.equals(new TreeSet<>(FACE)));
        for (Class<?> c : all()) {
            for (Method m : c.getDeclaredMethods()) {
                boolean ofFace = c == face && Modifier.isPublic(m.getModifiers());
                check.holds(m + " bears no name of the face", ofFace || !names.contains(m.getName()));
                check.holds(m + " is of the face, private or of a class inside",
                    ofFace || c != face || Modifier.isPrivate(m.getModifiers()) || m.isSynthetic());
                check.holds(m + " takes at most seven", m.getParameterCount() <= 7);
            }
        }
        Constructor<?>[] constructors = face.getDeclaredConstructors();
        check.holds("one public constructor", constructors.length == 1 && Modifier.isPublic(constructors[0].getModifiers())
            && constructors[0].getParameterCount() == 0);
        constants(face);
    }

    private static void constants(Class<?> face) {
        List<String> due = List.of("NO_SUCH", "BAD_VALUE", "BAD_TEXT", "TOO_MANY", "NOT_POSSIBLE", "NONE",
            "BAGS", "PATIENCE", "AREAS", "COST", "DOOR");
        int[] answers = {ShuttleDoors.NO_SUCH, ShuttleDoors.BAD_VALUE, ShuttleDoors.BAD_TEXT, ShuttleDoors.TOO_MANY,
            ShuttleDoors.NOT_POSSIBLE, ShuttleDoors.NONE, ShuttleDoors.BAGS, ShuttleDoors.PATIENCE, ShuttleDoors.AREAS,
            ShuttleDoors.COST, ShuttleDoors.DOOR};
        for (int i = 0; i < answers.length; i++) {
            check.same(due.get(i), answers[i], i < 6 ? -101 - i : i - 6);
        }
        int publics = 0;
        for (Field f : face.getDeclaredFields()) {
            boolean constant = due.contains(f.getName()) && Modifier.isPublic(f.getModifiers()) && f.getType() == int.class;
            publics += constant ? 1 : 0;
            check.holds(f + " is of the face or private", constant || Modifier.isPrivate(f.getModifiers()));
        }
        check.same("constants", publics, due.size());
    }

    private static void classesInside() {
        check.holds("at most twelve classes", all().length <= 12);
        for (Class<?> c : all()) {
            long fields = Arrays.stream(c.getDeclaredFields()).filter(f -> !Modifier.isStatic(f.getModifiers())).count();
            check.holds(c + " has at most twenty fields", fields <= 20);
            for (Field f : c.getDeclaredFields()) {
                check.holds(f + " is final if static", !Modifier.isStatic(f.getModifiers()) || Modifier.isFinal(f.getModifiers()));
            }
            if (c != ShuttleDoors.class) {
                int m = c.getModifiers();
                check.holds(c + " is static, final and private", Modifier.isStatic(m) && Modifier.isFinal(m) && Modifier.isPrivate(m));
            }
        }
    }

    private static Class<?>[] all() {
        Class<?>[] inside = ShuttleDoors.class.getDeclaredClasses();
        Class<?>[] all = Arrays.copyOf(inside, inside.length + 1);
        all[inside.length] = ShuttleDoors.class;
        return all;
    }

    private static String signature(Method m) {
        StringBuilder text = new StringBuilder(m.getName()).append('(');
        for (Class<?> p : m.getParameterTypes()) {
            text.append(text.charAt(text.length() - 1) == '(' ? "" : ",").append(p.getName());
        }
        return text.append(')').toString();
    }

    private static String withoutComments(String source) {
        return source.replaceAll("(?s)/\\*.*?\\*/", "").replaceAll("//[^\n]*", "");
    }

    /** A method begins and ends in the same column, that of a member of the class or of a class inside it. */
    private static void methods(String[] lines) {
        Pattern head = Pattern.compile("^( {4}| {8})(?! )[^=;]*\\(.*\\) \\{$");
        int found = 0;
        for (int i = 0; i < lines.length; i++) {
            Matcher m = head.matcher(lines[i]);
            if (!m.matches()) {
                continue;
            }
            found++;
            int end = i;
            while (!lines[end].equals(m.group(1) + "}")) {
                end++;
            }
            check.holds(lines[i].trim() + " has at most sixty lines", end - i + 1 <= 60);
        }
        check.holds("methods were found", found > 40);
    }
}
