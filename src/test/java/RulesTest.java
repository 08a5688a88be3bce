import java.lang.reflect.Field;
import java.lang.reflect.Method;
import java.lang.reflect.Modifier;
import java.nio.file.Files;
import java.nio.file.Path;
import java.util.ArrayList;
import java.util.List;
import java.util.TreeSet;
import java.util.regex.Matcher;
import java.util.regex.Pattern;

/** What ../shared/LANGUAGE.md says of the class, as far as its source and its face can show it. */
public final class RulesTest {
    private static final Path SOURCE = Path.of("src/main/java/RackTrain.java");
    private static final Path DOCUMENT = Path.of("../shared/DOC.md");

    public static void main(String[] args) throws Exception {
        String source = Files.readString(SOURCE);
        face();
        members();
        words(source);
        objects(source);
        lengths(source);
        new CallDepth().check(SOURCE);
        Check.end();
    }

    private static void wrongIf(boolean wrong, String what) {
        Check.due(what, wrong, false);
    }

    /** The public methods are those that the document lists, type by type. */
    private static void face() throws Exception {
        String document = Files.readString(DOCUMENT);
        TreeSet<String> due = new TreeSet<>();
        Matcher m = Pattern.compile("public (\\w+) (\\w+)\\(([^)]*)\\)").matcher(document);
        while (m.find()) {
            due.add(m.group(1) + " " + m.group(2) + "(" + m.group(3).replaceAll(" \\w+(,|$)", "$1") + ")");
        }
        TreeSet<String> got = new TreeSet<>();
        for (Method method : RackTrain.class.getDeclaredMethods()) {
            if (Modifier.isPublic(method.getModifiers())) {
                List<String> types = new ArrayList<>();
                for (Class<?> type : method.getParameterTypes()) {
                    types.add(type.getSimpleName());
                }
                got.add(method.getReturnType().getSimpleName() + " " + method.getName() + "(" + String.join(", ", types) + ")");
            }
        }
        wrongIf(due.size() < 30, "the face was not found in the document");
        wrongIf(!due.equals(got), "the face is " + got + ", due is " + due);
    }

    private static void members() {
        TreeSet<String> names = new TreeSet<>();
        for (Method method : RackTrain.class.getDeclaredMethods()) {
            int modifiers = method.getModifiers();
            wrongIf(!Modifier.isPublic(modifiers) && !Modifier.isPrivate(modifiers), "visible: " + method);
            wrongIf(method.getParameterCount() > 7, "more than seven parameters: " + method);
            if (Modifier.isPublic(modifiers)) {
                names.add(method.getName());
            }
        }
        for (Field field : RackTrain.class.getDeclaredFields()) {
            wrongIf(!field.getName().equals("NONE") && !Modifier.isPrivate(field.getModifiers()), "visible: " + field);
        }
        for (Class<?> inside : RackTrain.class.getDeclaredClasses()) {
            wrongIf(!Modifier.isStatic(inside.getModifiers()) || !Modifier.isPrivate(inside.getModifiers()), "class: " + inside);
            fields(inside);
            for (Method method : inside.getDeclaredMethods()) {
                wrongIf(names.contains(method.getName()), "named as one of the face: " + method);
            }
        }
        fields(RackTrain.class);
    }

    private static void fields(Class<?> of) {
        int size = 0;
        for (Field field : of.getDeclaredFields()) {
            wrongIf(Modifier.isStatic(field.getModifiers()) && !Modifier.isFinal(field.getModifiers()), "static: " + field);
            size += Modifier.isStatic(field.getModifiers()) ? 0 : 1;
        }
        wrongIf(size > 20, "more than twenty fields: " + of);
    }

    private static void words(String source) {
        for (String word : new String[] {"try", "catch", "finally", "synchronized", "assert", "instanceof", "equals",
            "hashCode", "toString", "package", "protected", "native", "volatile"}) {
            wrongIf(Pattern.compile("\\b" + word + "\\b").matcher(uncommented(source)).find(), "the word " + word);
        }
        for (String sign : new String[] {"->", "::", "\" +", "+ \""}) {
            wrongIf(source.contains(sign), "the sign " + sign);
        }
        Matcher library = Pattern.compile("\\b(System|Math|Integer|Long|Arrays|String)\\.(\\w+)").matcher(source);
        while (library.find()) {
            String used = library.group();
            wrongIf(!List.of("System.arraycopy", "Integer.bitCount", "Integer.MAX_VALUE", "Long.MIN_VALUE").contains(used),
                    "the library's " + used);
        }
        Matcher imports = Pattern.compile("import ([\\w.]+);").matcher(source);
        while (imports.find()) {
            wrongIf(!imports.group(1).equals("java.util.NoSuchElementException"), "import of " + imports.group(1));
        }
        for (int i = 0; i < source.length(); i++) {
            wrongIf(source.charAt(i) > 126, "a sign above 126 at " + i);
        }
    }

    private static String uncommented(String source) {
        return source.replaceAll("(?s)/\\*.*?\\*/", "").replaceAll("//[^\n]*", "");
    }

    /** Rows and objects are made with the object alone: in fields and in constructors. */
    private static void objects(String source) {
        boolean inConstructor = false;
        for (String line : uncommented(source).split("\n")) {
            if (line.matches("    public RackTrain\\(\\) \\{|        [A-Z]\\w+\\([^)]*\\) \\{")) {
                inConstructor = true;
            } else if (line.matches("    \\}|        \\}")) {
                inConstructor = false;
            }
            boolean field = line.matches("        (private )?(final )?[A-Z\\w\\[\\]]+ \\w+ = new .*;");
            wrongIf(line.contains("new ") && !line.contains("throw new") && !inConstructor && !field, "made by a call: " + line);
        }
    }

    private static void lengths(String source) {
        String[] lines = source.split("\n");
        int start = -1;
        for (int i = 0; i < lines.length; i++) {
            if (lines[i].matches("(    |        )[\\w@].*\\) (throws .*)?\\{")) {
                start = i;
            } else if (lines[i].matches("    \\}|        \\}")) {
                wrongIf(start >= 0 && i - start > 60, "a long method at line " + (start + 1));
                start = -1;
            }
        }
    }
}
