import java.io.IOException;
import java.lang.reflect.Method;
import java.lang.reflect.Modifier;
import java.lang.reflect.Parameter;
import java.nio.file.Files;
import java.nio.file.Path;
import java.util.ArrayList;
import java.util.List;
import java.util.TreeSet;
import java.util.regex.Matcher;
import java.util.regex.Pattern;

/**
 * The class has the document's face and no more, and its source keeps to the rules of LANGUAGE.md that a text search
 * can tell. Arguments: the source file and the document.
 */
public final class FaceTest {
    private static final int LONGEST_METHOD = 60;
    private static final String[] FORBIDDEN = {"\\bcatch\\b", "\\btry\\b", "\\bfinally\\b", "->", "::",
        "\\binstanceof\\b", "\\bsynchronized\\b", "\\bassert\\b", "\\bgetMessage\\b", "\\bObject\\b", "\\bThread\\b",
        "\\bRandom\\b", "\\bSystem\\.(?!arraycopy)", "\\bArrays\\.(?!fill|copyOf)", "Exact\\(", "\\bprotected\\b",
        "\\bordinal\\(", "\\bname\\(", "\\bhashCode\\b", "\\btoString\\b", "\\bNaN\\b", "\\bMath\\.(?!min|max|abs)",
        "\\bInteger\\.(?!compare|MAX_VALUE|MIN_VALUE)", "\" *\\+", "\\+ *\""};

    private final Checks checks = new Checks();

    public static void main(String[] arguments) throws IOException {
        FaceTest test = new FaceTest();
        String source = Files.readString(Path.of(arguments[0]));
        test.face(Files.readString(Path.of(arguments[1])));
        test.imports(source);
        test.forbidden(source);
        test.names(source);
        test.methodLengths(source);
        test.constructors(source);
        test.checks.close();
    }

    private void face(String document) {
        TreeSet<String> due = new TreeSet<>();
        Matcher line = Pattern.compile("(?m)^    public (.*);$").matcher(document);
        while (line.find()) {
            due.add(line.group(1));
        }
        TreeSet<String> got = new TreeSet<>();
        got.add("BridgeAuction()");
        for (Method method : BridgeAuction.class.getDeclaredMethods()) {
            if (Modifier.isPublic(method.getModifiers())) {
                got.add(declared(method));
            }
        }
        checks.due("the document has a face", true, () -> due.size() > 50);
        checks.due("the face", due.toString(), () -> parameterless(due, got));
        checks.due("public and final", Modifier.PUBLIC | Modifier.FINAL, BridgeAuction.class::getModifiers);
        checks.due("one constructor", 1, () -> BridgeAuction.class.getDeclaredConstructors().length);
        checks.due("the constructor is public", Modifier.PUBLIC,
                () -> BridgeAuction.class.getDeclaredConstructors()[0].getModifiers());
        checks.due("no visible fields", 0, () -> visibleFields());
    }

    /** Compiled classes hold no names of parameters, so both sides are compared without them. */
    private static String parameterless(TreeSet<String> due, TreeSet<String> got) {
        TreeSet<String> answer = new TreeSet<>();
        TreeSet<String> left = new TreeSet<>(got);
        for (String declaration : due) {
            String plain = declaration.replaceAll("(int|char) \\w+(?=[,)])", "$1");
            answer.add(left.remove(plain) ? declaration : "missing: " + declaration);
        }
        answer.addAll(left);
        return answer.toString();
    }

    private static String declared(Method method) {
        List<String> parameters = new ArrayList<>();
        for (Parameter parameter : method.getParameters()) {
            parameters.add(parameter.getType().getSimpleName());
        }
        List<String> exceptions = new ArrayList<>();
        for (Class<?> exception : method.getExceptionTypes()) {
            exceptions.add(exception.getSimpleName());
        }
        return method.getReturnType().getSimpleName() + " " + method.getName() + "(" + String.join(", ", parameters)
                + ")" + (exceptions.isEmpty() ? "" : " throws " + String.join(", ", exceptions));
    }

    private static int visibleFields() {
        int count = 0;
        for (var field : BridgeAuction.class.getDeclaredFields()) {
            count += Modifier.isPrivate(field.getModifiers()) ? 0 : 1;
        }
        return count;
    }

    private void imports(String source) {
        checks.due("no package", false, () -> source.contains("package "));
        List<String> imports = new ArrayList<>();
        Matcher line = Pattern.compile("(?m)^import (.*);$").matcher(source);
        while (line.find()) {
            imports.add(line.group(1));
        }
        checks.due("imports", "[java.util.Arrays, java.util.NoSuchElementException]", imports::toString);
        checks.due("public class and its face", 56, () -> source.split("\\bpublic\\b").length - 1);
    }

    private void forbidden(String source) {
        String code = withoutComments(source);
        for (String forbidden : FORBIDDEN) {
            Matcher matcher = Pattern.compile(forbidden).matcher(code);
            checks.due("source without " + forbidden, "", () -> matcher.find() ? matcher.group() : "");
        }
        checks.due("ASCII alone", true, () -> source.chars().allMatch(c -> c < 127));
    }

    private static String withoutComments(String source) {
        return source.replaceAll("(?s)/\\*.*?\\*/", "").replaceAll("//.*", "");
    }

    private void names(String source) {
        TreeSet<String> face = new TreeSet<>();
        for (Method method : BridgeAuction.class.getDeclaredMethods()) {
            if (Modifier.isPublic(method.getModifiers())) {
                face.add(method.getName());
            }
        }
        TreeSet<String> shared = new TreeSet<>();
        for (Class<?> inner : BridgeAuction.class.getDeclaredClasses()) {
            for (Method method : inner.getDeclaredMethods()) {
                if (face.contains(method.getName())) {
                    shared.add(inner.getSimpleName() + "." + method.getName());
                }
            }
        }
        checks.due("no inner method bears a name of the face", "[]", shared::toString);
        checks.due("few classes", true, () -> source.split("(?m)^    private (static final class|enum) ").length <= 12);
    }

    /** What a constructor gets of the object that is being made, it could keep. */
    private void constructors(String source) {
        List<String> handedOut = new ArrayList<>();
        String code = withoutComments(source).replaceAll("\"[^\"]*\"", "text");
        Matcher made = Pattern.compile("(?<!throw )new \\w+\\([^)]+\\)|\\bthis\\b(?!\\.)").matcher(code);
        while (made.find()) {
            handedOut.add(made.group());
        }
        checks.due("handed to a constructor, or handed out by an object", "[]", handedOut::toString);
    }

    private void methodLengths(String source) {
        String[] lines = source.split("\n");
        int start = 0;
        for (int i = 0; i < lines.length; i++) {
            String line = lines[i];
            if (line.endsWith("{") && line.matches("(    |        )[^ ].*")) {
                start = i;
            }
            if (line.equals("    }") || line.equals("        }")) {
                int length = i - start + 1;
                checks.due("length of the method before line " + (i + 1), true, () -> length <= LONGEST_METHOD);
            }
        }
    }
}
