import java.io.IOException;
import java.lang.reflect.Constructor;
import java.lang.reflect.Field;
import java.lang.reflect.Method;
import java.lang.reflect.Modifier;
import java.nio.file.Files;
import java.nio.file.Path;
import java.util.ArrayList;
import java.util.Arrays;
import java.util.List;
import java.util.Set;
import java.util.TreeSet;
import java.util.regex.Matcher;
import java.util.regex.Pattern;
import java.util.stream.Collectors;

/** The face as the document writes it, and those rules of LANGUAGE.md that can be looked up. */
public final class FaceTest {
    private static final Path DOC = Path.of("../shared/DOC.md");
    private static final Path SOURCE = Path.of("src/main/java/PinInn.java");

    private FaceTest() {
    }

    public static void main(String[] args) throws IOException {
        faceIsTheDocuments();
        List<Class<?>> classes = new ArrayList<>(List.of(PinInn.class));
        classes.addAll(Arrays.asList(PinInn.class.getDeclaredClasses()));
        Inn.due("rule 11: at most 12 classes", classes.size() <= 12, true);
        for (Class<?> c : classes) {
            members(c);
        }
        source();
        Inn.close("FaceTest");
    }

    private static void faceIsTheDocuments() throws IOException {
        String doc = Files.readString(DOC);
        int from = doc.indexOf("```java");
        String face = doc.substring(from, doc.indexOf("```", from + 3));
        Set<String> want = new TreeSet<>();
        Matcher m = Pattern.compile("public (\\w+) (\\w+)\\((.*?)\\)(?: throws (.*?))?;").matcher(face);
        while (m.find()) {
            String types = Arrays.stream(m.group(3).split(", *")).map(p -> p.split(" ")[0]).collect(Collectors.joining(","));
            String thrown = m.group(4) == null ? "" : m.group(4).replace(" ", "");
            want.add(m.group(1) + " " + m.group(2) + "(" + types + ")" + thrown);
        }
        Set<String> got = new TreeSet<>();
        for (Method method : PinInn.class.getDeclaredMethods()) {
            if (Modifier.isPublic(method.getModifiers())) {
                got.add(method.getReturnType().getSimpleName() + " " + method.getName() + "("
                    + names(method.getParameterTypes()) + ")" + names(method.getExceptionTypes()));
            }
        }
        Inn.due("rule 1: methods of the document, " + want + " and " + got, got.equals(want), true);
        Inn.due("rule 1: 35 methods", want.size(), 35);
        Inn.due("rule 1: final", Modifier.isFinal(PinInn.class.getModifiers()), true);
        Inn.due("rule 1: one constructor", PinInn.class.getDeclaredConstructors().length, 1);
    }

    private static String names(Class<?>[] types) {
        return Arrays.stream(types).map(Class::getSimpleName).collect(Collectors.joining(","));
    }

    private static void members(Class<?> c) {
        boolean outer = c == PinInn.class;
        String of = c.getSimpleName();
        Inn.due("rule 1: static inside: " + of, outer || Modifier.isStatic(c.getModifiers()), true);
        Inn.due("rule 1: private or package-visible inside: " + of, outer || !Modifier.isPublic(c.getModifiers()), true);
        Set<String> face = Arrays.stream(PinInn.class.getDeclaredMethods())
            .filter(m -> Modifier.isPublic(m.getModifiers())).map(Method::getName).collect(Collectors.toSet());
        for (Method m : c.getDeclaredMethods()) {
            boolean open = Modifier.isPublic(m.getModifiers());
            Inn.due("rule 1: " + of + "." + m.getName(), open ? outer : !face.contains(m.getName()), true);
            Inn.due("rule 1: private: " + m, !outer || open || Modifier.isPrivate(m.getModifiers()), true);
            Inn.due("rule 11: seven parameters: " + m, m.getParameterCount() <= 7, true);
        }
        int fields = 0;
        for (Field f : c.getDeclaredFields()) {
            boolean fixed = Modifier.isStatic(f.getModifiers());
            fields += fixed ? 0 : 1;
            Inn.due("rule 5: final: " + f, !fixed || Modifier.isFinal(f.getModifiers()), true);
            boolean none = f.getName().equals("NONE");
            Inn.due("rule 1: private: " + f, !outer || none || Modifier.isPrivate(f.getModifiers()), true);
        }
        Inn.due("rule 11: twenty fields: " + of, fields <= 20, true);
        for (Constructor<?> made : c.getDeclaredConstructors()) {
            Inn.due("rule 1: public: " + made, Modifier.isPublic(made.getModifiers()), outer);
        }
    }

    private static void source() throws IOException {
        String text = Files.readString(SOURCE);
        for (char sign : text.toCharArray()) {
            if (sign > 126) {
                Inn.due("rule 4: signs of the source", sign, 126);
            }
        }
        String code = text.replaceAll("(?s)/\\*.*?\\*/", "").replaceAll("//[^\n]*", "").replaceAll("\"[^\"\n]*\"", "\"\"");
        for (String word : new String[] {"try", "catch", "finally", "synchronized", "assert", "package", "volatile",
            "native", "Object", "hashCode", "double", "float", "Thread", "Random", "var"}) {
            Inn.due("no " + word, Pattern.compile("\\b" + word + "\\b").matcher(code).find(), false);
        }
        for (String sign : new String[] {"->", "::", "@", "Exact(", "[][][]"}) {
            Inn.due("no " + sign, code.contains(sign), false);
        }
        Inn.due("two imports", code.split("\\bimport\\b").length - 1, 2);
        Inn.due("an import", code.contains("import java.util.NoSuchElementException;"), true);
        Inn.due("an import", code.contains("import java.util.Arrays;"), true);
        Matcher system = Pattern.compile("\\bSystem\\.(\\w+)").matcher(code);
        while (system.find()) {
            Inn.due("System." + system.group(1), system.group(1).equals("arraycopy"), true);
        }
        lengths(text.split("\n"));
    }

    /** A member begins with four blanks (eight inside a class) and ends with a brace of the same depth. */
    private static void lengths(String[] lines) {
        for (int depth = 4; depth <= 8; depth += 4) {
            String blanks = " ".repeat(depth);
            int from = -1;
            for (int i = 0; i < lines.length; i++) {
                String line = lines[i];
                boolean top = line.startsWith(blanks) && line.length() > depth && line.charAt(depth) != ' ';
                if (top && line.endsWith("{") && line.contains("(") && !line.contains("class ")) {
                    from = i;
                } else if (top && line.equals(blanks + "}") && from >= 0) {
                    Inn.due("rule 11: sixty lines: " + lines[from].trim(), i - from + 1 <= 60, true);
                    from = -1;
                }
            }
        }
    }
}
