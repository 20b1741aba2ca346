import java.io.IOException;
import java.lang.reflect.Field;
import java.lang.reflect.Member;
import java.lang.reflect.Method;
import java.lang.reflect.Modifier;
import java.nio.file.Files;
import java.nio.file.Path;
import java.util.ArrayList;
import java.util.Arrays;
import java.util.List;
import java.util.Set;
import java.util.TreeSet;
import java.util.regex.Matcher;
import java.util.regex.Pattern;

/** The public face, and those rules of ../shared/LANGUAGE.md that a look at the code can tell. */
final class RulesTest {
    private static final Path SOURCE = Path.of("src/main/java/PurseRing.java");
    private static final Path DOCUMENT = Path.of("../shared/DOC.md");
    private static final String[] FACE = {
        "int ring(int,int,int,int)", "int seat(int,int,int,int)", "int letter(int,int)",
        "int answers(int,int,int)", "int order(int,int)", "int lot(int,int)", "int open(int)",
        "int deposit(int,int,int)", "int row(int,int)", "int tear(int)", "int pay(int,int,int)",
        "int came(int,int)", "int late(int,int)", "int bid(int,int,long)", "int need(int,int)",
        "int yes(int,int)", "int draw(int)", "long drawn(int,int,int)", "int stop(int,int)",
        "int replace(int,int,int)", "long stops(int,int,int)", "int close(int)", "int fair(int)",
        "int undo(int)", "int image(int)", "int tell(long)", "int check(int)",
        "long look(int,int,int)", "long as(int,int,int,int)", "long count(int,int)"};
    private static final String[] FORBIDDEN = {
        "\\bthrow\\b", "\\btry\\b", "\\bcatch\\b", "\\bsynchronized\\b", "\\bassert\\b", "->", "::",
        "\\bimport\\b", "\\bpackage\\b", "\\bprotected\\b", "static\\s*\\{", "Exact\\(",
        "\\bequals\\b", "\\bhashCode\\b", "\\btoString\\b", "@"};
    private static final int LONGEST_METHOD = 60;
    private static final int MOST_FIELDS = 20;
    private static final int MOST_CLASSES = 12;
    private static final int MOST_PARAMETERS = 7;

    private static final List<String> wrong = new ArrayList<>();

    public static void main(String[] args) throws IOException {
        face();
        documentsFace();
        for (Class<?> c : PurseRing.class.getDeclaredClasses()) {
            nested(c);
        }
        names();
        words();
        methodLengths();
        wrong.forEach(System.out::println);
        System.out.println("RulesTest: " + wrong.size() + " not as the rules say");
        if (!wrong.isEmpty()) {
            System.exit(1);
        }
    }

    private static void want(boolean holds, String otherwise) {
        if (!holds) {
            wrong.add(otherwise);
        }
    }

    private static void face() {
        Class<PurseRing> c = PurseRing.class;
        want(c.getModifiers() == (Modifier.PUBLIC | Modifier.FINAL), "the class is public and final");
        want(c.getDeclaredConstructors().length == 1 && c.getConstructors().length == 1
                && c.getConstructors()[0].getParameterCount() == 0, "one constructor, public");
        Set<String> open = new TreeSet<>();
        for (Method m : c.getDeclaredMethods()) {
            if (!Modifier.isPrivate(m.getModifiers())) {
                open.add(m.getReturnType() + " " + m.getName()
                        + Arrays.toString(m.getParameterTypes()).replace('[', '(').replace(']', ')')
                        .replace(" ", ""));
                want(m.getModifiers() == Modifier.PUBLIC, m + " is public and no more");
            }
        }
        want(open.equals(new TreeSet<>(Arrays.asList(FACE))), "the face is " + open);
        for (Field f : c.getDeclaredFields()) {
            want(Modifier.isPrivate(f.getModifiers()) || f.getName().equals("NONE"), f + " is private");
            want(!Modifier.isStatic(f.getModifiers()) || Modifier.isFinal(f.getModifiers()),
                    f + " is final");
        }
        want(c.getDeclaredClasses().length <= MOST_CLASSES, "at most twelve classes");
    }

    /** Each line of the document's face stands in the code as it is, names of arguments too. */
    private static void documentsFace() throws IOException {
        String code = Files.readString(SOURCE);
        Matcher block = Pattern.compile("(?s)```java\n(.*?)```").matcher(Files.readString(DOCUMENT));
        want(block.find(), "the document has a face");
        int lines = 0;
        for (String line : block.group(1).split("\n")) {
            boolean isMethod = line.endsWith(");");
            String head = isMethod ? line.substring(0, line.length() - 1) + " {" : line;
            want(code.contains(head + "\n"), "the code lacks " + line.trim());
            lines += isMethod ? 1 : 0;
        }
        want(lines == FACE.length + 1, "the document's face has " + lines + " methods and constructors");
    }

    private static void nested(Class<?> c) {
        want(Modifier.isStatic(c.getModifiers()), c + " is static");
        want(!Modifier.isPublic(c.getModifiers()), c + " is not public");
        int fields = 0;
        for (Field f : c.getDeclaredFields()) {
            fields += Modifier.isStatic(f.getModifiers()) ? 0 : 1;
        }
        want(fields <= MOST_FIELDS, c + " has " + fields + " fields");
        want(c.getDeclaredClasses().length == 0, c + " has no classes of its own");
    }

    private static void names() {
        Set<String> open = new TreeSet<>();
        for (Method m : PurseRing.class.getMethods()) {
            open.add(m.getName());
        }
        List<Method> own = new ArrayList<>();
        for (Method m : PurseRing.class.getDeclaredMethods()) {
            own.add(m);
        }
        for (Class<?> c : PurseRing.class.getDeclaredClasses()) {
            own.addAll(Arrays.asList(c.getDeclaredMethods()));
        }
        for (Method m : own) {
            want(isOpen(m) || !open.contains(m.getName()), m + " bears the name of a public one");
            want(m.getParameterCount() <= MOST_PARAMETERS, m + " has too many parameters");
        }
    }

    private static boolean isOpen(Member m) {
        return m.getDeclaringClass() == PurseRing.class && Modifier.isPublic(m.getModifiers());
    }

    private static void words() throws IOException {
        String code = Files.readString(SOURCE).replaceAll("(?s)/\\*.*?\\*/", "").replaceAll("//.*", "");
        for (String word : FORBIDDEN) {
            want(!Pattern.compile(word).matcher(code).find(), "the code has " + word);
        }
        Matcher library = Pattern.compile("\\b(System|Arrays|Math|Integer|Long)\\.(\\w+)").matcher(code);
        Set<String> allowed = Set.of("System.arraycopy", "Math.min", "Math.max");
        while (library.find()) {
            want(allowed.contains(library.group()), "the code has " + library.group());
        }
    }

    private static void methodLengths() throws IOException {
        int begun = 0;
        String indent = "";
        List<String> lines = Files.readAllLines(SOURCE);
        Pattern head = Pattern.compile("^( {4}| {8})[A-Za-z].*\\) \\{$");
        for (int i = 0; i < lines.size(); i++) {
            Matcher m = head.matcher(lines.get(i));
            if (m.matches() && indent.isEmpty()) {
                begun = i;
                indent = m.group(1);
            } else if (!indent.isEmpty() && lines.get(i).equals(indent + "}")) {
                want(i - begun < LONGEST_METHOD, "a long method at line " + (begun + 1));
                indent = "";
            }
        }
        want(indent.isEmpty() && begun > 0, "methods were found");
    }
}
