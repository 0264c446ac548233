import java.lang.reflect.Constructor;
import java.lang.reflect.Field;
import java.lang.reflect.Method;
import java.lang.reflect.Modifier;
import java.nio.file.Files;
import java.nio.file.Path;
import java.util.Arrays;
import java.util.List;
import java.util.Set;
import java.util.TreeSet;
import java.util.regex.Matcher;
import java.util.regex.Pattern;

/** The public face, and of LANGUAGE.md's rules those that can be seen from the source or the class. */
public final class LanguageTests {
    private static int wrong = 0;

    private static final List<String> FACE = List.of(
            "int feed(long,long,long)", "int towns()", "int claim()", "int folk(int,int,int)",
            "int point(int,int,int)", "boolean paint(int,int,int)", "boolean link(int,int,int,int)", "boolean undo()",
            "int left()", "int hint()", "int reply(int,int)", "int rounds()", "int sided(int)", "int keeps(int,int,int)",
            "int hands(int)", "int colours(int)", "int ways()", "int selves(int)", "int orbit(int,int)", "int mend(int)",
            "int elders(int,int)", "int far(int,int,int)", "int groups(int)", "int loner(int)", "int most(int)",
            "int measure(int)", "int so(int)", "boolean parts()", "int models()", "boolean report(boolean)",
            "int lost(int)", "int sure()", "int rests(int,int,int,int)", "int plays(int,int,int)",
            "boolean mark(int,boolean)", "int count(int)");

    public static void main(String[] args) throws Exception {
        face();
        String source = Files.readString(Path.of("src/main/java/TwoTowns.java"));
        source(source);
        methods(source);
        if (wrong != 0) {
            System.exit(1);
        }
        System.out.println("face and language are as due");
    }

    private static void check(boolean good, String what) {
        if (!good) {
            wrong++;
            System.out.println(what);
        }
    }

    private static void face() throws Exception {
        check(Modifier.isPublic(TwoTowns.class.getModifiers()) && Modifier.isFinal(TwoTowns.class.getModifiers()),
                "the class is public and final");
        Set<String> shown = new TreeSet<>();
        Set<String> names = new TreeSet<>();
        for (Method m : TwoTowns.class.getDeclaredMethods()) {
            String types = Arrays.toString(m.getParameterTypes()).replaceAll("[\\[\\] ]", "");
            if (Modifier.isPublic(m.getModifiers())) {
                shown.add(m.getReturnType() + " " + m.getName() + "(" + types + ")");
                names.add(m.getName());
            } else {
                check(Modifier.isPrivate(m.getModifiers()), "not private: " + m);
            }
            check(!Modifier.isPublic(m.getModifiers()) || !Modifier.isStatic(m.getModifiers()), "static: " + m);
        }
        check(shown.equals(new TreeSet<>(FACE)), "the face is " + shown);
        for (Method m : TwoTowns.class.getDeclaredMethods()) {
            check(Modifier.isPublic(m.getModifiers()) || !names.contains(m.getName()), "bears a name of the face: " + m);
        }
        Constructor<?>[] made = TwoTowns.class.getDeclaredConstructors();
        check(made.length == 1 && Modifier.isPublic(made[0].getModifiers()) && made[0].getParameterCount() == 0,
                "one public constructor");
        for (Field f : TwoTowns.class.getDeclaredFields()) {
            check(f.getName().equals("NONE") || Modifier.isPrivate(f.getModifiers()), "not private: " + f);
        }
        Class<?>[] inside = TwoTowns.class.getDeclaredClasses();
        check(inside.length < 12, "some twelve classes");
        for (Class<?> c : inside) {
            check(Modifier.isStatic(c.getModifiers()) && !Modifier.isPublic(c.getModifiers()), "inside: " + c);
            int fields = 0;
            for (Field f : c.getDeclaredFields()) {
                fields += Modifier.isStatic(f.getModifiers()) ? 0 : 1;
            }
            check(fields <= 20, "some twenty fields: " + c);
            for (Method m : c.getDeclaredMethods()) {
                check(!names.contains(m.getName()), "bears a name of the face: " + m);
            }
        }
    }

    private static void source(String source) {
        String code = source.replaceAll("(?s)/\\*.*?\\*/", "").replaceAll("//[^\n]*", "");
        for (String never : new String[] {"->", "::", "synchronized", "assert ", "finally", "catch", "try ", "Exact(",
            "volatile", "transient", "hashCode", "toString", "System.out", "System.nanoTime", "System.current",
            "Random", "Thread", "static {", "instanceof", "double", "float", "String.format", "new String["}) {
            check(!code.contains(never), "the source has " + never);
        }
        Set<String> imports = new TreeSet<>();
        Matcher m = Pattern.compile("import ([^;]*);").matcher(code);
        while (m.find()) {
            imports.add(m.group(1));
        }
        check(imports.equals(new TreeSet<>(List.of("java.util.Arrays", "java.util.NoSuchElementException"))),
                "imports " + imports);
        for (int i = 0; i < source.length(); i++) {
            if (source.charAt(i) > 126) {
                check(false, "a sign beyond 126 at " + i);
                break;
            }
        }
        Matcher thrown = Pattern.compile("throw new (\\w+)\\(\\)").matcher(code);
        while (thrown.find()) {
            check(thrown.group(1).equals("NoSuchElementException"), "throws " + thrown.group(1));
        }
        for (String line : source.split("\n")) {
            check(line.length() <= 120, "a long line: " + line);
        }
    }

    /** A method starts at a line with a bracket behind its parameters and ends at the brace of its indent. */
    private static void methods(String source) {
        String[] lines = source.split("\n");
        Pattern head = Pattern.compile("^( {4}| {8})(?! )[\\w\\[\\] ]+\\(([^)]*)\\)( throws \\w+)? \\{$");
        int seen = 0;
        for (int i = 0; i < lines.length; i++) {
            Matcher m = head.matcher(lines[i]);
            if (m.matches()) {
                seen++;
                int to = i;
                while (!lines[to].equals(m.group(1) + "}")) {
                    to++;
                }
                check(to - i < 60, "a long method: " + lines[i]);
                check(m.group(2).split(",").length <= 7, "many parameters: " + lines[i]);
            }
        }
        check(seen > 100, "methods were seen");
    }
}
