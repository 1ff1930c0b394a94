import java.io.IOException;
import java.lang.reflect.Constructor;
import java.lang.reflect.Field;
import java.lang.reflect.Method;
import java.lang.reflect.Modifier;
import java.nio.file.Files;
import java.nio.file.Path;
import java.util.ArrayList;
import java.util.Arrays;
import java.util.List;
import java.util.TreeSet;
import java.util.regex.Matcher;
import java.util.regex.Pattern;

/** The public face of the document, and those rules of LANGUAGE.md that can be seen in the class or its text. */
public final class LanguageTest {
    private static final Path SOURCE = Path.of("src/main/java/EvenGranary.java");
    private static final String[] FACE = {
        "int feed(int,int,int,int,int)", "int edict(int)", "int rule(int)", "int town(int,int,int)",
        "int road(int,int,int,int)", "boolean coin(long)", "boolean harvest(int,int)", "int step(int)",
        "boolean move(int,int,int)", "long loan(int,int)", "boolean steal(int,int)", "int measure(int,int)",
        "long missing(int,int)", "long foretold(int)", "int best(int,int)", "long look(int,int)",
        "int lot(int,int,int)", "long count(int)"};
    private static final String[] BANNED = {
        "\\bthrow\\b", "\\btry\\b", "\\bcatch\\b", "\\bsynchronized\\b", "\\bassert\\b", "->", "::", "Exact\\b",
        "\\bprotected\\b", "\\bpackage\\b", "\\btoString\\b", "\\bhashCode\\b", "\\bThread\\b", "\\bRandom\\b", "NaN",
        "^import (?!java\\.util\\.ArrayList;)"};

    public static void main(String[] args) throws IOException {
        Due due = new Due("LanguageTest");
        face(due);
        namesOfPublicMethodsAreTheirs(due);
        nestedClasses(due);
        text(due);
        due.end();
    }

    private static void face(Due due) {
        Class<?> c = EvenGranary.class;
        due.is("NONE", -1, EvenGranary.NONE);
        due.is("public and final", true, Modifier.isPublic(c.getModifiers()) && Modifier.isFinal(c.getModifiers()));
        List<String> found = new ArrayList<>();
        for (Method m : c.getDeclaredMethods()) {
            if (!Modifier.isPrivate(m.getModifiers())) {
                String parameters = m.toString().replaceAll(".*\\((.*)\\).*", "$1");
                found.add(m.getReturnType() + " " + m.getName() + "(" + parameters + ")");
                due.is(m.getName() + " is public and no more", Modifier.PUBLIC, m.getModifiers());
            }
        }
        due.is("methods are those of the document", true, new TreeSet<>(found).equals(new TreeSet<>(Arrays.asList(FACE))));
        for (Field f : c.getDeclaredFields()) {
            boolean isNone = f.getName().equals("NONE");
            due.is("field " + f.getName(), true, isNone || Modifier.isPrivate(f.getModifiers()));
        }
        Constructor<?>[] made = c.getDeclaredConstructors();
        due.is("one constructor", 1, made.length);
        due.is("without parameters", 0, made[0].getParameterCount());
    }

    private static void namesOfPublicMethodsAreTheirs(Due due) {
        List<Class<?>> all = new ArrayList<>(Arrays.asList(EvenGranary.class.getDeclaredClasses()));
        all.add(EvenGranary.class);
        for (Class<?> c : all) {
            for (Method m : c.getDeclaredMethods()) {
                boolean isOfTheFace = c == EvenGranary.class && Modifier.isPublic(m.getModifiers());
                boolean hasSuchName = false;
                for (String line : FACE) {
                    hasSuchName |= line.contains(" " + m.getName() + "(");
                }
                due.is("name of " + c.getSimpleName() + "." + m.getName(), true, isOfTheFace || !hasSuchName);
                due.is("parameters of " + m.getName(), true, m.getParameterCount() <= 7);
            }
        }
    }

    private static void nestedClasses(Due due) {
        Class<?>[] nested = EvenGranary.class.getDeclaredClasses();
        due.is("at most twelve classes", true, nested.length + 1 <= 12);
        for (Class<?> c : nested) {
            int m = c.getModifiers();
            due.is(c + " is static and not public", true, Modifier.isStatic(m) && !Modifier.isPublic(m));
            due.is(c + " has no class of its own", 0, c.getDeclaredClasses().length);
            due.is("fields of " + c, true, Arrays.stream(c.getDeclaredFields()).filter(f -> !Modifier.isStatic(f.getModifiers())).count() <= 20);
            for (Field f : c.getDeclaredFields()) {
                boolean isStatic = Modifier.isStatic(f.getModifiers());
                due.is("static " + f.getName() + " is final", true, !isStatic || Modifier.isFinal(f.getModifiers()));
            }
        }
    }

    private static void text(Due due) throws IOException {
        String source = Files.readString(SOURCE);
        String code = source.replaceAll("(?s)/\\*.*?\\*/", "").replaceAll("//[^\n]*", "");
        for (String banned : BANNED) {
            Matcher m = Pattern.compile(banned, Pattern.MULTILINE).matcher(code);
            due.is("text with " + banned, false, m.find());
        }
        // A method's lines, from its head at one of the two depths to the brace that closes it there.
        Matcher methods = Pattern.compile("(?ms)^( {4}| {8})(\\S[^\n;=]*\\) \\{)\n.*?^\\1\\}").matcher(source);
        while (methods.find()) {
            due.is("lines of " + methods.group(2), true, methods.group().lines().count() <= 60);
        }
    }
}
