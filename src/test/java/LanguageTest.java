import java.lang.reflect.Constructor;
import java.lang.reflect.Field;
import java.lang.reflect.Method;
import java.lang.reflect.Modifier;
import java.nio.charset.StandardCharsets;
import java.nio.file.Files;
import java.nio.file.Path;
import java.util.ArrayDeque;
import java.util.Arrays;
import java.util.Deque;
import java.util.Set;
import java.util.TreeSet;
import java.util.regex.Matcher;
import java.util.regex.Pattern;

/** The public face of the document, and what of LANGUAGE.md can be seen by reading the file. */
public final class LanguageTest {
    private static final Due DUE = new Due("LanguageTest");
    private static final Path SOURCE = Path.of("src/main/java/PuzzleParts.java");
    private static final String FACE = "int feed(int,long);int part();int partOf(int,int);int cell(int,int);"
            + "long lets(int);int ways(int,int);int covered(int,int,int);long barred(int);int formula();"
            + "long means(int,int);int does(int,int);int misses(int,int);int turn(int);int mirror(int);"
            + "int less(int,int);int rename(int,int);int alike(int,int);int needless(int);int put(int);"
            + "int find(int,int,int);int net();int piece(int,int);int link(int,int,int);int free(int,int);"
            + "int netLets(int,int);int howMany(int,int);int netDoes(int,int);int lay(int,int,int);int overlap();"
            + "int meets(int,int);int leak();int floorNet();int clear();int count(int)";
    private static final String[] BARRED_WORDS = {"throw", "throws", "try", "catch", "finally", "synchronized", "assert",
        "import", "package", "volatile", "transient", "native", "strictfp", "var", "Object", "System\\s*\\.\\s*out",
        "hashCode", "equals", "toString", "Thread", "Runtime", "Exception", "Error", "protected", "record", "yield",
        "goto", "null\\s*\\)\\s*\\.", "while\\s*\\(\\s*true\\s*\\)", "->", "::", "@", "instanceof", "Exact"};

    public static void main(String[] args) throws Exception {
        face();
        insides();
        words();
        lengths();
        DUE.end();
    }

    private static void holds(String what, boolean holds) {
        DUE.is(what, holds ? 1 : 0, 1);
    }

    private static void face() {
        Set<String> want = new TreeSet<>(Arrays.asList(FACE.split(";")));
        Set<String> got = new TreeSet<>();
        for (Method method : PuzzleParts.class.getDeclaredMethods()) {
            if (!Modifier.isPrivate(method.getModifiers())) {
                String types = Arrays.toString(method.getParameterTypes()).replaceAll("[\\[\\] ]", "");
                got.add(method.getReturnType() + " " + method.getName() + "(" + types + ")");
                holds(method + " is public and not static",
                        (method.getModifiers() & (Modifier.PUBLIC | Modifier.STATIC)) == Modifier.PUBLIC);
            }
        }
        holds("the face is " + want + ", and not " + got, want.equals(got));
        holds("PuzzleParts is public and final", PuzzleParts.class.getModifiers() == (Modifier.PUBLIC | Modifier.FINAL));
        Constructor<?>[] constructors = PuzzleParts.class.getDeclaredConstructors();
        holds("one constructor", constructors.length == 1 && constructors[0].getParameterCount() == 0
                && Modifier.isPublic(constructors[0].getModifiers()));
    }

    private static void insides() {
        Set<String> publicNames = new TreeSet<>();
        for (String method : FACE.split(";")) {
            publicNames.add(method.substring(method.indexOf(' ') + 1, method.indexOf('(')));
        }
        for (Method method : PuzzleParts.class.getDeclaredMethods()) {
            holds("a private " + method.getName(),
                    !Modifier.isPrivate(method.getModifiers()) || !publicNames.contains(method.getName()));
        }
        for (Field field : PuzzleParts.class.getDeclaredFields()) {
            holds(field + " is private", Modifier.isPrivate(field.getModifiers()));
        }
        Class<?>[] classes = PuzzleParts.class.getDeclaredClasses();
        holds("twelve classes at most", classes.length < 12);
        for (Class<?> inside : classes) {
            holds(inside + " is static", Modifier.isStatic(inside.getModifiers()));
            holds(inside + " is not public", !Modifier.isPublic(inside.getModifiers()));
            for (Method method : inside.getDeclaredMethods()) {
                holds(method + " has a name of its own", !publicNames.contains(method.getName()));
                holds(method + " has seven parameters at most", method.getParameterCount() <= 7);
            }
            fields(inside);
        }
        fields(PuzzleParts.class);
    }

    private static void fields(Class<?> of) {
        int own = 0;
        for (Field field : of.getDeclaredFields()) {
            boolean isStatic = Modifier.isStatic(field.getModifiers());
            holds(field + " is final, if static", !isStatic || Modifier.isFinal(field.getModifiers()));
            own += isStatic ? 0 : 1;
        }
        holds(of + " has some twenty fields at most", own <= 20);
    }

    private static void words() throws Exception {
        byte[] bytes = Files.readAllBytes(SOURCE);
        for (byte one : bytes) {
            if (one < 0 || one < ' ' && one != '\n') {
                holds("a sign " + one + " in the source", false);
            }
        }
        String code = withoutComments(new String(bytes, StandardCharsets.US_ASCII));
        for (String word : BARRED_WORDS) {
            boolean isName = Character.isLetter(word.charAt(0));
            Matcher found = Pattern.compile(isName ? "\\b" + word + "\\b" : word).matcher(code);
            holds("no " + word + " in the source", !found.find());
        }
        holds("no text in the source", code.indexOf('"') < 0);
        holds("no static block", !Pattern.compile("static\\s*\\{").matcher(code).find());
        holds("no endless for", !Pattern.compile("for\\s*\\([^;]*;\\s*;").matcher(code).find());
        for (String line : new String(bytes, StandardCharsets.US_ASCII).split("\n")) {
            holds("no line beyond 120 signs: " + line, line.length() <= 120);
        }
    }

    private static String withoutComments(String source) {
        return source.replaceAll("(?s)/\\*.*?\\*/", "").replaceAll("//[^\n]*", "");
    }

    /** Methods stand between a line that ends in an opening brace and the brace as far in as that line. */
    private static void lengths() throws Exception {
        Deque<Integer> starts = new ArrayDeque<>();
        int number = 0;
        for (String line : Files.readAllLines(SOURCE, StandardCharsets.US_ASCII)) {
            number++;
            String trimmed = line.trim();
            if (trimmed.startsWith("}") && !starts.isEmpty()) {
                int start = starts.pop();
                boolean inner = starts.size() > 2;
                holds("lines " + start + " to " + number + " are sixty at most", !inner || number - start <= 60);
            }
            if (trimmed.endsWith("{")) {
                starts.push(number);
            }
        }
        DUE.is("braces left open", starts.size(), 0);
    }
}
