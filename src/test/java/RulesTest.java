import java.io.IOException;
import java.lang.reflect.Constructor;
import java.lang.reflect.Field;
import java.lang.reflect.Method;
import java.lang.reflect.Modifier;
import java.nio.charset.StandardCharsets;
import java.nio.file.Files;
import java.nio.file.Path;
import java.util.ArrayList;
import java.util.List;
import java.util.Set;
import java.util.TreeSet;
import java.util.regex.Matcher;
import java.util.regex.Pattern;

/** The class's face, and those rules of LANGUAGE.md that can be seen from the source; run from the project's root. */
public final class RulesTest {
    private static final Due DUE = new Due();
    private static final String FACE = "back1 block2 buys2 clear0 clears0 count1 cut2 fits2 good2 hue2 keep1 kind2 lays2 "
        + "left2 made3 many1 next0 piece2 quilt2 square1 sure0 takes1 tells0 type1 undo0 wanting1";
    private static final String[] NOT_ALLOWED = {"throw", "throws", "try", "catch", "finally", "synchronized", "assert",
        "volatile", "transient", "native", "Object", "System\\.out", "protected", "package", "var", "equals",
        "hashCode", "toString", "Math\\.\\w*Exact"};

    public static void main(String[] args) throws IOException {
        face();
        source();
        DUE.end("RulesTest");
    }

    private static void face() {
        Class<?> c = QuiltPatches.class;
        DUE.is("modifiers", c.getModifiers(), Modifier.PUBLIC | Modifier.FINAL);
        Set<String> methods = new TreeSet<>();
        Set<String> hidden = new TreeSet<>();
        for (Method m : c.getDeclaredMethods()) {
            if (Modifier.isPrivate(m.getModifiers())) {
                hidden.add(m.getName());
                continue;
            }
            methods.add(m.getName() + m.getParameterCount());
            DUE.is("modifiers of " + m, m.getModifiers(), Modifier.PUBLIC);
            DUE.holds("int from " + m, m.getReturnType() == int.class);
            for (Class<?> parameter : m.getParameterTypes()) {
                DUE.holds("int into " + m, parameter == int.class);
            }
        }
        DUE.holds("the face is " + methods, String.join(" ", methods).equals(FACE));
        for (String name : hidden) {
            DUE.holds(name + " is not a public name", !FACE.matches(".*\\b" + name + "\\d.*"));
        }
        Constructor<?>[] constructors = c.getDeclaredConstructors();
        DUE.is("constructors", constructors.length, 1);
        DUE.is("a constructor without parameters", constructors[0].getParameterCount(), 0);
        DUE.is("a public constructor", constructors[0].getModifiers(), Modifier.PUBLIC);
        fields(c);
        DUE.holds("at most twelve classes", c.getDeclaredClasses().length < 12);
        for (Class<?> inside : c.getDeclaredClasses()) {
            DUE.holds(inside + " is static", Modifier.isStatic(inside.getModifiers()));
            fields(inside);
        }
    }

    private static void fields(Class<?> c) {
        int own = 0;
        Set<String> open = new TreeSet<>();
        for (Field f : c.getDeclaredFields()) {
            if (Modifier.isStatic(f.getModifiers())) {
                DUE.holds(f + " is final", Modifier.isFinal(f.getModifiers()));
            } else {
                own++;
            }
            if (!Modifier.isPrivate(f.getModifiers())) {
                open.add(f.getName());
            }
        }
        DUE.holds(c + " has twenty fields at most", own <= 20);
        if (c == QuiltPatches.class) {
            DUE.holds("the open fields are " + open, open.toString().equals("[BAD, FULL, NONE, STATE]"));
        }
    }

    private static void source() throws IOException {
        byte[] bytes = Files.readAllBytes(Path.of("src/main/java/QuiltPatches.java"));
        for (byte b : bytes) {
            if (b < 0) {
                DUE.holds("plain signs only", false);
                break;
            }
        }
        String code = new String(bytes, StandardCharsets.US_ASCII)
            .replaceAll("(?s)/\\*.*?\\*/", "").replaceAll("//[^\n]*", "");
        for (String word : NOT_ALLOWED) {
            DUE.holds("no " + word, !Pattern.compile("\\b" + word + "\\b").matcher(code).find());
        }
        DUE.holds("no lambda", !code.contains("->"));
        DUE.holds("no method reference", !code.contains("::"));
        Matcher imports = Pattern.compile("import ([^;]*);").matcher(code);
        while (imports.find()) {
            DUE.holds("import " + imports.group(1), imports.group(1).equals("java.util.Arrays"));
        }
        Matcher calls = Pattern.compile("\\b(Arrays|System|Math|Integer)\\.(\\w+)").matcher(code);
        while (calls.find()) {
            DUE.holds(calls.group(), "Arrays.fill System.arraycopy Math.min Math.max Integer.bitCount"
                .contains(calls.group()));
        }
        methodsAreShort(code);
    }

    private static void methodsAreShort(String code) {
        List<String> lines = new ArrayList<>(List.of(code.split("\n")));
        Pattern head = Pattern.compile("^( {4}| {8})(\\w+ )*\\w+\\(([^()]*)\\) \\{$");
        for (int i = 0; i < lines.size(); i++) {
            Matcher m = head.matcher(lines.get(i));
            if (!m.find()) {
                continue;
            }
            int end = lines.subList(i, lines.size()).indexOf(m.group(1) + "}");
            DUE.holds(lines.get(i).trim() + " is short", end >= 0 && end <= 60);
            DUE.holds(lines.get(i).trim() + " takes seven at most", m.group(3).split(",").length <= 7);
        }
    }
}
