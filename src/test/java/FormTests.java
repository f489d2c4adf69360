import java.io.IOException;
import java.lang.reflect.Constructor;
import java.lang.reflect.Field;
import java.lang.reflect.Method;
import java.lang.reflect.Modifier;
import java.nio.file.Files;
import java.nio.file.Path;
import java.util.ArrayList;
import java.util.List;
import java.util.Set;
import java.util.regex.Matcher;
import java.util.regex.Pattern;

/**
 * The rules of ../shared/LANGUAGE.md that the text of the class, or its members, can tell, each with its number. Where a rule allows
 * what the class does not need (catches, lists, StringBuilder), this test refuses it, since that is told from the text more surely.
 */
public final class FormTests extends Checks {
    private static final Path SOURCE = Path.of("src/main/java/FogBellMarket.java");
    private static final int MOST_LINES = 60;
    private static final int MOST_DEPTH = 8;
    private static final int MOST_PARAMETERS = 7;
    private static final int MOST_CLASSES = 12;
    private static final int MOST_FIELDS = 20;

    private static final Set<Class<?>> STATIC_TYPES = Set.of(int.class, long.class, boolean.class, char.class, String.class,
        int[].class, long[].class, char[].class, byte[].class);
    private static final Set<String> EXCEPTIONS = Set.of("IllegalStateException", "IllegalArgumentException",
        "IndexOutOfBoundsException", "ArithmeticException", "UnsupportedOperationException", "NoSuchElementException",
        "RuntimeException");
    private static final Set<String> STATIC_CALLS = Set.of("compare", "max", "min", "abs", "bitCount", "floorDiv", "floorMod");

    public static void main(String[] args) throws IOException {
        String text = Files.readString(SOURCE);
        String code = withoutCommentsAndTexts(text);
        rule1TheFile(text, code);
        rules2To10Words(code);
        rule4Library(code);
        rule4Texts(text);
        rule6Exceptions(code);
        rule11Methods(methods(code.split("\n")));
        for (Class<?> one : classes()) {
            rule5StaticFields(one);
            rule11Members(one);
        }
        due("rule 11: at most twelve classes", classes().size() <= MOST_CLASSES, true);
        end();
    }

    private static String withoutCommentsAndTexts(String text) {
        return text.replaceAll("(?s)/\\*.*?\\*/", "").replaceAll("\"([^\"\\\\\n]|\\\\.)*\"", "\"\"").replaceAll("//[^\n]*", "");
    }

    private static List<Class<?>> classes() {
        List<Class<?>> all = new ArrayList<>(List.of(FogBellMarket.class.getDeclaredClasses()));
        all.add(FogBellMarket.class);
        return all;
    }

    private static void rule1TheFile(String text, String code) {
        due("one file", SOURCE.getParent().toFile().list((folder, name) -> name.endsWith(".java")).length, 1);
        due("no package line", Pattern.compile("(?m)^package\\b").matcher(code).find(), false);
        due("one public class", text.split("public final class", -1).length, 2);
    }

    private static void none(String rule, String code, String pattern) {
        Matcher found = Pattern.compile(pattern).matcher(code);
        due(rule, found.find() ? found.group() : "none", "none");
    }

    private static void rules2To10Words(String code) {
        none("rule 2: no lambda and no method reference", code, "->|::");
        none("rule 5: no static initialiser block", code, "\\bstatic\\s*\\{");
        none("rule 6: nothing is caught", code, "\\b(try|catch|finally)\\b");
        none("rule 6: not used", code, "\\b(synchronized|assert|native|volatile|transient)\\b");
        none("rule 6: no equals, hashCode or toString", code, "\\b(equals|hashCode|toString)\\b");
        none("rule 10: texts are not joined by +", code, "\"\\s*\\+|\\+\\s*\"");
        none("rule 13: nothing from outside", code, "\\b(System|Thread|Runtime|Random|Files?|Class|Object)\\b");
        none("rule 9: no loop without an end", code, "while \\(true\\)|for \\(;;|for \\([^;]*; *;");
    }

    private static void rule4Library(String code) {
        Matcher imports = Pattern.compile("(?m)^import (.*);").matcher(code);
        while (imports.find()) {
            due("import", imports.group(1), "java.util.NoSuchElementException");
        }
        Matcher calls = Pattern.compile("\\b(Math|Integer|Long)\\.(\\w+)").matcher(code);
        while (calls.find()) {
            due("rule 4: " + calls.group(), STATIC_CALLS.contains(calls.group(2)), true);
        }
        none("rule 3: types of the library", code, "\\b(Iterator|Iterable|Arrays|ArrayList|List|Map|Set|StringBuilder|Double|Float)\\b");
    }

    private static void rule4Texts(String text) {
        boolean plain = true;
        for (char sign : text.toCharArray()) {
            plain &= sign >= 1 && sign <= 127;
        }
        due("rule 4: signs are 1 to 127", plain, true);
    }

    private static void rule6Exceptions(String code) {
        Matcher thrown = Pattern.compile("\\bthrow\\b[^;]*;").matcher(code);
        while (thrown.find()) {
            Matcher plain = Pattern.compile("throw new (\\w+)\\((\"\")?\\);").matcher(thrown.group());
            due("rule 6: " + thrown.group(), plain.matches() && EXCEPTIONS.contains(plain.group(1)), true);
        }
    }

    private record MethodText(String owner, String name, String body, int lines) { }

    // A method begins at a line with a parenthesis and an open brace, and ends at the closing brace that stands as far in.
    private static List<MethodText> methods(String[] lines) {
        List<MethodText> all = new ArrayList<>();
        String owner = "";
        for (int i = 0; i < lines.length; i++) {
            Matcher type = Pattern.compile("( {4})?(private |public )(static )?(final )?(class|enum) (\\w+) \\{").matcher(lines[i]);
            Matcher head = Pattern.compile("( {8}| {4})(?! |(if|for|while|switch) )[\\w\\[\\] ]*\\b(\\w+)\\(.*\\{").matcher(lines[i]);
            if (type.matches()) {
                owner = type.group(6);
            } else if (head.matches()) {
                int first = i;
                StringBuilder body = new StringBuilder();
                while (i + 1 < lines.length && !lines[i].equals(head.group(1) + "}")) {
                    i++;
                    body.append(lines[i]).append('\n');
                }
                all.add(new MethodText(owner, head.group(3), body.toString(), i - first + 1));
            }
        }
        return all;
    }

    private static void rule11Methods(List<MethodText> methods) {
        due("methods were found", methods.size() > 100, true);
        for (MethodText method : methods) {
            String name = method.owner + "." + method.name;
            due("rule 11: short is " + name, method.lines <= MOST_LINES, true);
            int depth = depth(method, methods, 1);
            due("rule 11: not too deep goes " + name, depth <= MOST_DEPTH ? "good" : depth, "good");
        }
    }

    // By the names alone: what a method calls may stand in any of the classes, though not in the method itself.
    private static int depth(MethodText method, List<MethodText> methods, int above) {
        int deepest = above;
        Matcher calls = Pattern.compile("\\b(\\w+)\\(").matcher(method.body);
        while (calls.find() && deepest <= 2 * MOST_DEPTH) {
            for (MethodText called : methods) {
                if (called.name.equals(calls.group(1)) && called != method) {
                    deepest = Math.max(deepest, depth(called, methods, above + 1));
                }
            }
        }
        return deepest;
    }

    private static void rule5StaticFields(Class<?> one) {
        for (Field field : one.getDeclaredFields()) {
            boolean values = field.getType().isArray() && field.getType().getComponentType().isEnum();
            boolean good = STATIC_TYPES.contains(field.getType()) || field.isEnumConstant() || values;
            if (Modifier.isStatic(field.getModifiers())) {
                due("rule 5: " + field, Modifier.isFinal(field.getModifiers()) && good, true);
            }
        }
    }

    private static void rule11Members(Class<?> one) {
        int fields = 0;
        for (Field field : one.getDeclaredFields()) {
            fields += Modifier.isStatic(field.getModifiers()) ? 0 : 1;
        }
        due("rule 11: fields of " + one.getSimpleName(), fields <= MOST_FIELDS, true);
        for (Method method : one.getDeclaredMethods()) {
            due("rule 11: parameters of " + method, method.getParameterCount() <= MOST_PARAMETERS, true);
        }
        for (Constructor<?> made : one.getDeclaredConstructors()) {
            due("rule 11: parameters of " + made, made.getParameterCount() <= MOST_PARAMETERS, true);
        }
    }
}
