import com.sun.management.ThreadMXBean;
import java.io.IOException;
import java.lang.management.ManagementFactory;
import java.lang.reflect.Executable;
import java.lang.reflect.Field;
import java.lang.reflect.Method;
import java.lang.reflect.Modifier;
import java.nio.file.Files;
import java.nio.file.Path;
import java.util.HashSet;
import java.util.List;
import java.util.Set;
import java.util.TreeSet;
import java.util.regex.Matcher;
import java.util.regex.Pattern;

/** The public face, and the rules of LANGUAGE.md that can be seen in the text or counted in a run. */
public final class FaceTests {
    private static final String SOURCE = "src/main/java/GivingHeaps.java";
    private static final String[] METHODS = {
        "int parting(int)", "int heap(int,int)", "int at(int,int)", "int take(int,int)", "int tear(int)",
        "int copy(int,int,int,int)", "int rule(int)", "int kind(int)", "int mark(int,int)", "int mean(int)",
        "int many(int)", "int rank(int)", "int list(int,int,int)", "int turn(int)", "int step(int,int)",
        "int tail(int)", "int beat(int)", "int leader(int)", "int rounds(int,int)", "int ring(int,int)",
        "int from(int)", "int fromAt(int,int)", "int steps(int,int)", "int ways(int,int)", "int reach(int)",
        "int walks(int,int,int)", "long asked()", "int told(int,int)", "int count(int)", "int finding()",
        "int findings(int)", "long digest()"};
    private static final String[] CONSTANTS = {"BAD", "FULL", "FINDING", "STATE", "NONE"};
    private static final String[] FORBIDDEN = {
        "\\bthrow\\b", "\\bthrows\\b", "\\btry\\b", "\\bcatch\\b", "\\bsynchronized\\b", "\\bassert\\b", "->", "::",
        "\\bprotected\\b", "\\bMath\\.random\\b", "\\bSystem\\.(?!arraycopy)", "\\bThread\\b", "Exact\\(",
        "\\btoString\\b", "\\bhashCode\\b", "\\bStream\\b"};
    private static int wrong = 0;

    private static void check(String what, boolean holds) {
        if (!holds) {
            wrong++;
            System.out.println("not so: " + what);
        }
    }

    private static String signature(Method m) {
        StringBuilder out = new StringBuilder(m.getReturnType().getSimpleName() + " " + m.getName() + "(");
        for (Class<?> type : m.getParameterTypes()) {
            out.append(out.charAt(out.length() - 1) == '(' ? "" : ",").append(type.getSimpleName());
        }
        return out.append(")").toString();
    }

    private static void face() {
        check("the class is public and final", Modifier.isPublic(GivingHeaps.class.getModifiers())
                && Modifier.isFinal(GivingHeaps.class.getModifiers()));
        Set<String> publicOnes = new TreeSet<>();
        for (Method m : GivingHeaps.class.getDeclaredMethods()) {
            if (Modifier.isPublic(m.getModifiers()) && !Modifier.isStatic(m.getModifiers())) {
                publicOnes.add(signature(m));
            } else {
                check(m + " is private", Modifier.isPrivate(m.getModifiers()));
            }
        }
        check("the public methods are those of the document: " + publicOnes,
                publicOnes.equals(new TreeSet<>(List.of(METHODS))));
        Set<String> constants = new TreeSet<>();
        for (Field f : GivingHeaps.class.getDeclaredFields()) {
            if (Modifier.isPublic(f.getModifiers())) {
                check(f + " is a constant", Modifier.isStatic(f.getModifiers()) && Modifier.isFinal(f.getModifiers()));
                constants.add(f.getName());
            } else {
                check(f + " is private", Modifier.isPrivate(f.getModifiers()));
            }
        }
        check("the constants are those of the document", constants.equals(new TreeSet<>(List.of(CONSTANTS))));
        Executable[] constructors = GivingHeaps.class.getDeclaredConstructors();
        check("one public constructor without parameters", constructors.length == 1
                && Modifier.isPublic(constructors[0].getModifiers()) && constructors[0].getParameterCount() == 0);
    }

    private static void inside() {
        Set<String> publicNames = new HashSet<>();
        for (String method : METHODS) {
            publicNames.add(method.substring(method.indexOf(' ') + 1, method.indexOf('(')));
        }
        for (Method m : GivingHeaps.class.getDeclaredMethods()) {
            check(m + " bears no public name", !Modifier.isPrivate(m.getModifiers()) || !publicNames.contains(m.getName()));
        }
        Class<?>[] classes = GivingHeaps.class.getDeclaredClasses();
        check("at most twelve classes", classes.length < 12);
        for (Class<?> inner : classes) {
            check(inner + " is static and not public", Modifier.isStatic(inner.getModifiers())
                    && !Modifier.isPublic(inner.getModifiers()) && !Modifier.isProtected(inner.getModifiers()));
            check(inner + " has at most twenty fields", inner.getDeclaredFields().length <= 20);
            for (Field f : inner.getDeclaredFields()) {
                check(f + " is no changing static", !Modifier.isStatic(f.getModifiers()) || Modifier.isFinal(f.getModifiers()));
            }
            for (Method m : inner.getDeclaredMethods()) {
                check(m + " bears no public name", !publicNames.contains(m.getName()));
                check(m + " has at most seven parameters", m.getParameterCount() <= 7);
            }
        }
    }

    private static void text() throws IOException {
        String whole = Files.readString(Path.of(SOURCE));
        check("characters 0 to 127 alone", whole.chars().allMatch(c -> c < 128));
        String code = whole.replaceAll("(?s)/\\*.*?\\*/", "").replaceAll("//[^\n]*", "");
        for (String pattern : FORBIDDEN) {
            check("no " + pattern, !Pattern.compile(pattern).matcher(code).find());
        }
        Matcher imports = Pattern.compile("import ([\\w.*]+);").matcher(code);
        while (imports.find()) {
            check("import of " + imports.group(1), imports.group(1).equals("java.util.Arrays"));
        }
        check("no package", !Pattern.compile("\\bpackage\\b").matcher(code).find());
        methodsAreShort(whole.split("\n"));
    }

    // A method ends at the first brace that stands as far in as its head does.
    private static void methodsAreShort(String[] lines) {
        Pattern head = Pattern.compile("( {4}| {8})(?!if|for|while|switch)\\w[^=;]*\\) \\{");
        int heads = 0;
        for (int i = 0; i < lines.length; i++) {
            Matcher m = head.matcher(lines[i]);
            if (m.matches()) {
                int end = i;
                while (end < lines.length && !lines[end].equals(m.group(1) + "}")) {
                    end++;
                }
                heads++;
                check("at most sixty lines: " + lines[i].trim(), end - i < 60);
            }
        }
        check("the methods are seen", heads >= METHODS.length);
    }

    private static long bytes() {
        return ((ThreadMXBean) ManagementFactory.getThreadMXBean()).getThreadAllocatedBytes(Thread.currentThread().getId());
    }

    // An object or array takes 16 bytes or more and an element, as the class has them, 4 or more (but for 12 booleans).
    private static void room() {
        long before = bytes();
        dearestRun();
        check("600,000 objects hold the dearest run", bytes() - before < 600_000L * 16);
        before = bytes();
        for (int i = 0; i < 512; i++) {
            GivingHeaps x = new GivingHeaps();
            x.rounds(18, 0);
        }
        check("7,300,000 elements hold 512 objects with a list of 18 each", bytes() - before < 7_300_000L * 4);
    }

    private static void dearestRun() {
        GivingHeaps x = new GivingHeaps();
        for (int rule = 0; rule < 4; rule++) {
            x.rule(rule);
            for (int n = 0; n <= 18; n++) {
                x.rounds(n, 0);
            }
        }
        x.list(0, 18, 384);
        x.list(1, 18, 200);
        for (int call = 82; call < 512; call += 5) {
            x.walks(0, 1, 3);
            x.reach(0);
            x.step(1, 1000);
            x.tear(2);
            x.parting(2);
        }
    }

    public static void main(String[] args) throws IOException {
        face();
        inside();
        text();
        room();
        System.out.println(wrong == 0 ? "all is as due" : wrong + " things are not as due");
        if (wrong != 0) {
            System.exit(1);
        }
    }
}
