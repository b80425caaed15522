import java.lang.reflect.Constructor;
import java.lang.reflect.Field;
import java.lang.reflect.Member;
import java.lang.reflect.Method;
import java.lang.reflect.Modifier;
import java.nio.file.Files;
import java.nio.file.Path;
import java.util.ArrayList;
import java.util.List;
import java.util.Set;
import java.util.TreeSet;
import java.util.regex.Matcher;
import java.util.regex.Pattern;

/** The document's face, no more and no less, and the rules of LANGUAGE.md that can be read off the file. */
public final class FaceTest {
    private static final String SOURCE = "src/main/java/CrissMerger.java";
    private static final String[] FACE = {
        "int row(int,int)", "int lay(int,int,int)", "int at(int,int)", "int tear(int)",
        "int copy(int,int,int,int,int)", "int mean(int)", "int text(int,int)", "int put(int,int,int)",
        "int fault(int)", "int book(int)", "int version(int,int)", "int mark(int,int)", "int file(int,int,int)",
        "int lines(int,int)", "int ancestors(int)", "int nearest(int,int)", "int common(int,int,int,int)",
        "int would(int,int)", "int mirrored(int,int)", "int change(int,int,int)", "int drop(int,int)",
        "int settle(int,int,int)", "int merge(int,int)", "int undo(int)", "int keep(int)", "int on(int)",
        "int lots(int,int)", "int unlike(int)", "int shared(int,int)", "int often(int,int,int)",
        "int from(int,int,int)", "int apart(int,int)", "int ways(int)", "int odds(int,int)", "int asked()",
        "long upper()", "long lower()", "int count(int)", "int finding()", "int findings(int)", "long digest()",
    };
    private static final String[] CONSTANTS = {"BAD=-1", "FULL=-2", "FINDING=-3", "STATE=-4", "SPENT=-6", "NONE=-9"};
    private static int wrong = 0;

    public static void main(String[] args) throws Exception {
        checkFace();
        checkNested();
        checkWords(bare(Files.readString(Path.of(SOURCE))));
        checkMethods(bare(Files.readString(Path.of(SOURCE))).split("\n"));
        System.out.println("FaceTest: " + wrong + " wrong");
        if (wrong != 0) {
            System.exit(1);
        }
    }

    private static void say(boolean well, String what) {
        if (!well) {
            wrong++;
            System.out.println(what);
        }
    }

    private static void checkFace() throws Exception {
        Class<?> face = CrissMerger.class;
        say(Modifier.isPublic(face.getModifiers()) && Modifier.isFinal(face.getModifiers()), "not public and final");
        say(face.getSuperclass() == Object.class && face.getInterfaces().length == 0, "not a class of its own");
        Set<String> open = new TreeSet<>();
        for (Method m : face.getDeclaredMethods()) {
            if (!Modifier.isPrivate(m.getModifiers())) {
                say(Modifier.isPublic(m.getModifiers()) && !Modifier.isStatic(m.getModifiers()), "visible: " + m);
                String types = m.toString().replaceAll(".*\\(|\\).*", "");
                open.add(m.getReturnType() + " " + m.getName() + "(" + types + ")");
            }
        }
        say(open.equals(new TreeSet<>(List.of(FACE))), "the methods are " + open);
        Set<String> constants = new TreeSet<>();
        for (Field f : face.getDeclaredFields()) {
            if (!Modifier.isPrivate(f.getModifiers())) {
                say(f.getType() == int.class && f.getModifiers() == (Modifier.PUBLIC | Modifier.STATIC | Modifier.FINAL),
                        "visible: " + f);
                constants.add(f.getName() + "=" + f.getInt(null));
            }
        }
        say(constants.equals(new TreeSet<>(List.of(CONSTANTS))), "the constants are " + constants);
        Constructor<?>[] makers = face.getDeclaredConstructors();
        say(makers.length == 1 && makers[0].getParameterCount() == 0 && Modifier.isPublic(makers[0].getModifiers()),
                "not one public constructor");
        checkMembers(face);
    }

    private static void checkMembers(Class<?> c) {
        List<Member> members = new ArrayList<>(List.of(c.getDeclaredFields()));
        members.addAll(List.of(c.getDeclaredMethods()));
        int fields = 0;
        for (Member m : members) {
            boolean fixed = Modifier.isStatic(m.getModifiers());
            say(!m.isSynthetic(), "synthetic: " + m);
            if (m instanceof Field) {
                fields += fixed ? 0 : 1;
                say(!fixed || Modifier.isFinal(m.getModifiers()), "static, not final: " + m);
            } else if (Modifier.isPrivate(m.getModifiers()) || c != CrissMerger.class) {
                for (String signature : FACE) {
                    say(!signature.matches(".* " + m.getName() + "\\(.*"), "named as one of the face: " + m);
                }
            }
        }
        say(fields <= 20, c + " has " + fields + " fields");
    }

    private static void checkNested() {
        Class<?>[] nested = CrissMerger.class.getDeclaredClasses();
        say(nested.length < 12, "too many classes");
        for (Class<?> c : nested) {
            say(Modifier.isStatic(c.getModifiers()), "not static: " + c);
            say(!Modifier.isPublic(c.getModifiers()) && !Modifier.isProtected(c.getModifiers()), "visible: " + c);
            say(c.getDeclaredClasses().length == 0, "classes within " + c);
            checkMembers(c);
        }
    }

    /** The file without comments. */
    private static String bare(String text) {
        Matcher comments = Pattern.compile("/\\*.*?\\*/|//[^\n]*", Pattern.DOTALL).matcher(text);
        return comments.replaceAll(m -> m.group().replaceAll("[^\n]", ""));
    }

    private static void checkWords(String text) {
        for (String word : List.of("throw", "throws", "try", "catch", "finally", "synchronized", "assert", "package",
                "Exact", "Object", "System\\.(?!arraycopy\\b)\\w+", "Thread", "Random", "equals", "hashCode", "toString",
                "native", "volatile", "transient", "var", "double", "float", "new int\\[\\]\\[")) {
            say(!Pattern.compile("\\b" + word + "\\b").matcher(text).find(), "a word that is ruled out: " + word);
        }
        say(!text.contains("->") && !text.contains("::") && !text.contains("\"") && !text.contains("@"),
                "a lambda, a reference, a text or a note");
        Matcher imports = Pattern.compile("import ([^;]*);").matcher(text);
        while (imports.find()) {
            say(imports.group(1).equals("java.util.Arrays"), "import " + imports.group(1));
        }
        say(text.chars().allMatch(c -> c < 128), "a sign beyond 127");
    }

    private static void checkMethods(String[] lines) {
        Pattern head = Pattern.compile("^( {4}| {8})(?=\\S)(?!return|else)[\\w\\[\\] ]+ ?\\w+\\(([^()]*)\\) \\{$");
        for (int i = 0; i < lines.length; i++) {
            Matcher m = head.matcher(lines[i]);
            if (m.matches()) {
                int end = i;
                while (!lines[end].equals(m.group(1) + "}") && end < lines.length - 1) {
                    end++;
                }
                say(end - i < 60, "longer than sixty lines: " + lines[i]);
                say(m.group(2).isEmpty() || m.group(2).split(",").length <= 7, "more than seven: " + lines[i]);
            }
        }
    }
}
