import java.io.IOException;
import java.lang.reflect.Constructor;
import java.lang.reflect.Field;
import java.lang.reflect.Method;
import java.lang.reflect.Modifier;
import java.nio.file.Files;
import java.nio.file.Path;
import java.util.ArrayList;
import java.util.Arrays;
import java.util.List;
import java.util.TreeSet;
import java.util.regex.Matcher;
import java.util.regex.Pattern;

/** The face of the document, and those rules of LANGUAGE.md that can be seen from the outside. */
public final class LanguageTest {
    private static final String[] FACE = {
        "boolean ahead(int,int)", "int after(int,int)", "boolean back()", "int block(int,int)", "int chain(int,int,int)", "int channel(int,int,int)",
        "int count(int)", "void crash(int)", "int delivered(int,int)", "int due(int,int)", "boolean end(int)", "int event(int,int)", "int fault()",
        "int feed(int,int,int,int,int)", "int first(int,int)", "int gather(int,int,int)", "int group(int)", "int has(int,int,int)",
        "boolean hold(int,int,boolean)", "void image()", "int knot(int,int)", "int lag(int)", "int late(int)", "int line(int)", "int log(int,int)",
        "int message(int,int)", "int net()", "int node(int,int)", "int outside(int)", "int packet(int,int,int,int)", "int parted(int,int)", "int ring()",
        "int seed(int)", "int send(int,int)", "int slowest()", "int spared(int)", "int takes(int)", "int those(int,int)", "int ticks(int)",
        "int waits(int)", "int when(int,int)",
    };
    private static int wrong = 0;

    private LanguageTest() {
    }

    public static void main(String[] args) throws IOException {
        String text = Files.readString(Path.of("src/main/java/LeastPending.java"));
        face();
        faceOfTheDocument(text, Files.readString(Path.of("../shared/DOC.md")));
        inside();
        source(text);
        System.out.println(wrong == 0 ? "the face and the language are as due" : wrong + " wrong");
        if (wrong != 0) {
            System.exit(1);
        }
    }

    private static void need(boolean fits, String what) {
        if (!fits) {
            wrong++;
            System.out.println("wrong: " + what);
        }
    }

    private static void face() {
        need(Modifier.isPublic(LeastPending.class.getModifiers()) && Modifier.isFinal(LeastPending.class.getModifiers()), "public final");
        need(LeastPending.NONE == -1, "NONE");
        TreeSet<String> seen = new TreeSet<>();
        for (Method m : LeastPending.class.getDeclaredMethods()) {
            if (Modifier.isPrivate(m.getModifiers()) || m.isSynthetic()) {
                continue;
            }
            String types = String.join(",", Arrays.stream(m.getParameterTypes()).map(Class::getName).toList());
            seen.add(m.getReturnType().getName() + " " + m.getName() + "(" + types + ")");
            need(Modifier.isPublic(m.getModifiers()) && !Modifier.isStatic(m.getModifiers()), m.toString());
        }
        need(seen.equals(new TreeSet<>(List.of(FACE))), "the methods of the face: " + seen);
        for (Field f : LeastPending.class.getDeclaredFields()) {
            need(Modifier.isPrivate(f.getModifiers()) || f.getName().equals("NONE"), f.toString());
        }
        Constructor<?>[] constructors = LeastPending.class.getDeclaredConstructors();
        need(constructors.length == 1 && Modifier.isPublic(constructors[0].getModifiers()), "one public constructor");
    }

    /** Each line of the document's face stands in the class as it is written there, with the names and what is thrown. */
    private static void faceOfTheDocument(String text, String document) {
        String plain = text.replaceAll("\\s+", " ");
        int from = document.indexOf("public final class");
        String[] lines = document.substring(from, document.indexOf("```", from)).split("\n");
        need(plain.contains(lines[0].trim()), lines[0]);
        int methods = 0;
        for (String line : lines) {
            String one = line.trim();
            if (one.endsWith(");") || one.contains(" throws ")) {
                methods++;
                need(plain.contains(one.replaceAll(";$", " {")), one);
            } else if (one.endsWith(";")) {
                need(plain.contains(one), one);
            }
        }
        need(methods == FACE.length + 1, "the methods of the document, and the constructor: " + methods);
    }

    private static void inside() {
        TreeSet<String> faceNames = new TreeSet<>();
        for (String one : FACE) {
            faceNames.add(one.replaceAll("^\\S+ |\\(.*", ""));
        }
        List<Class<?>> all = new ArrayList<>(List.of(LeastPending.class.getDeclaredClasses()));
        for (Class<?> c : all) {
            need(Modifier.isStatic(c.getModifiers()), c + " is static");
        }
        all.add(LeastPending.class);
        need(all.size() <= 12, "at most 12 classes: " + all.size());
        for (Class<?> c : all) {
            int fields = 0;
            for (Field f : c.getDeclaredFields()) {
                fields += Modifier.isStatic(f.getModifiers()) ? 0 : 1;
                need(!Modifier.isStatic(f.getModifiers()) || Modifier.isFinal(f.getModifiers()), f + " is final");
            }
            need(fields <= 20, c + " has " + fields + " fields");
            for (Method m : c.getDeclaredMethods()) {
                need(m.getParameterCount() <= 7, m + " has at most 7 parameters");
                need(c == LeastPending.class && Modifier.isPublic(m.getModifiers()) || !faceNames.contains(m.getName()), m + " has a name of the face");
            }
        }
    }

    private static void source(String text) {
        List<String> imports = Pattern.compile("^import .*$", Pattern.MULTILINE).matcher(text).results().map(r -> r.group()).toList();
        need(imports.equals(List.of("import java.util.Arrays;", "import java.util.NoSuchElementException;")), "imports: " + imports);
        need(text.chars().allMatch(c -> c < 128), "signs below 128");
        String code = text.replaceAll("(?s)/\\*.*?\\*/", "").replaceAll("//[^\n]*", "").replaceAll("\"[^\"\n]*\"", "\"\"");
        for (String not : List.of("->", "::", "synchronized", "finally", "assert ", "Exact(", "catch", "+ \"\"", "\"\" +", "System.out", "System.nano",
            "System.current", "Random", "Thread", "instanceof", "hashCode", "toString", ".equals(", "package ", "goto", "float ", "double ")) {
            need(!code.contains(not), "not in the code: " + not);
        }
        Matcher library = Pattern.compile("\\b(Arrays|System|Math|Integer|Long)\\.(\\w+)").matcher(code);
        while (library.find()) {
            need(List.of("Arrays.fill", "Arrays.copyOf", "System.arraycopy", "Math.max", "Math.min", "Integer.bitCount").contains(library.group()),
                "of the library: " + library.group());
        }
        Matcher thrown = Pattern.compile("\\bthrow\\b([^;]*);").matcher(code);
        while (thrown.find()) {
            need(thrown.group(1).matches(" new (IllegalState|IllegalArgument|IndexOutOfBounds|UnsupportedOperation|NoSuchElement)Exception\\(\"\"\\)"),
                thrown.group());
        }
        methodLengths(code);
    }

    private static void methodLengths(String code) {
        String[] lines = code.split("\n");
        for (int i = 0; i < lines.length; i++) {
            Matcher head = Pattern.compile("^( +)(?!.*\\bclass\\b)[a-zA-Z].*[{,]$").matcher(lines[i]);
            if (!head.find() || head.group(1).length() > 8) {
                continue;
            }
            int end = i + 1;
            while (end < lines.length && !lines[end].equals(head.group(1) + "}")) {
                end++;
            }
            need(end - i <= 60, "a method of " + (end - i) + " lines: " + lines[i].trim());
        }
    }
}
