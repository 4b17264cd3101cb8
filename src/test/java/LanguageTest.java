import java.lang.reflect.Constructor;
import java.lang.reflect.Field;
import java.lang.reflect.Method;
import java.lang.reflect.Modifier;
import java.nio.charset.StandardCharsets;
import java.nio.file.Files;
import java.nio.file.Path;
import java.util.HashSet;
import java.util.List;
import java.util.Set;
import java.util.regex.Matcher;
import java.util.regex.Pattern;

/** What of ../shared/LANGUAGE.md can be seen in the text of the class, and in the class itself. */
public final class LanguageTest {
    private static int seen = 0;
    private static int wrong = 0;

    public static void main(String[] args) throws Exception {
        String source = Files.readString(Path.of("src/main/java/AshLoans.java"), StandardCharsets.UTF_8);
        words(source);
        face();
        faceOfTheDocument();
        inside();
        methodLengths(source);
        System.out.println(seen + " rules looked at, " + wrong + " broken");
        if (wrong != 0 || seen == 0) {
            System.exit(1);
        }
    }

    private static void holds(boolean is, String rule) {
        seen++;
        if (!is) {
            wrong++;
            System.out.println("broken: " + rule);
        }
    }

    private static void words(String source) {
        for (char sign : source.toCharArray()) {
            if (sign != '\n' && (sign < 32 || sign > 126)) {
                holds(false, "the sign " + (int) sign + " stands in the source");
            }
        }
        String code = source.replaceAll("(?s)/\\*.*?\\*/", " ").replaceAll("//[^\n]*", " ")
            .replaceAll("'(\\\\.|[^'\\\\])'", "' '");
        String[] forbidden = {
            "throw", "throws", "try", "catch", "finally", "synchronized", "assert", "import", "package", "native",
            "volatile", "transient", "strictfp", "protected", "var", "yield", "instanceof", "Object", "Throwable",
            "Exception", "Thread", "Random", "System\\s*\\.\\s*(?!arraycopy)\\w+", "double", "float", "String",
            "equals", "hashCode", "toString", "Integer\\s*\\.\\s*(?!bitCount)\\w+", "\\w+Exact", "extends", "implements",
        };
        for (String word : forbidden) {
            Matcher found = Pattern.compile("\\b" + word + "\\b").matcher(code);
            holds(!found.find(), "no " + word);
        }
        holds(!code.contains("->"), "no lambda, no arrow");
        holds(!code.contains("::"), "no method reference");
        holds(!code.contains("\""), "no text");
        holds(!code.contains("@"), "no annotation");
        holds(!Pattern.compile("\\b(while|do)\\b").matcher(code).find(), "every loop is counted");
        for (String line : source.split("\n")) {
            holds(line.length() <= 120, "a line is at most 120 signs long: " + line.trim());
        }
    }

    private static void face() {
        Set<String> names = new HashSet<>(List.of(Calls.NAMES));
        holds(Modifier.isFinal(AshLoans.class.getModifiers()), "the class is final");
        Constructor<?>[] makers = AshLoans.class.getDeclaredConstructors();
        holds(makers.length == 1 && Modifier.isPublic(makers[0].getModifiers()), "one public constructor");
        Set<String> open = new HashSet<>();
        for (Method method : AshLoans.class.getDeclaredMethods()) {
            boolean isPrivate = Modifier.isPrivate(method.getModifiers());
            if (!isPrivate) {
                holds(open.add(method.getName()), "no two public methods of a name: " + method.getName());
                holds(method.getReturnType() == int.class, method.getName() + " answers an int");
            }
            holds(names.contains(method.getName()) != isPrivate, method.getName() + " is public if the face has it");
        }
        holds(open.equals(names), "the face is whole");
        for (int i = 0; i < Calls.NAMES.length; i++) {
            for (Method method : AshLoans.class.getDeclaredMethods()) {
                if (method.getName().equals(Calls.NAMES[i])) {
                    holds(method.getParameterCount() == Calls.arity(i), method.getName() + " takes what the face tells");
                }
            }
        }
        fields(AshLoans.class, true);
    }

    /** The lines of "The public face" in the document against the class: each is there, and nothing else is open. */
    private static void faceOfTheDocument() throws Exception {
        String doc = Files.readString(Path.of("../shared/DOC.md"), StandardCharsets.UTF_8);
        int begin = doc.indexOf("public final class AshLoans {");
        int end = doc.indexOf("```", begin);
        holds(begin >= 0 && end > begin, "the document shows a face");
        Set<String> due = new HashSet<>();
        Matcher line = Pattern.compile("public (int )?(\\w+)\\(([^)]*)\\);").matcher(doc.substring(begin, end));
        while (line.find()) {
            String types = line.group(3).replaceAll("(\\w+) \\w+", "$1").replace(" ", "");
            due.add((line.group(1) == null ? "" : line.group(1)) + line.group(2) + "(" + types + ")");
        }
        Set<String> open = new HashSet<>();
        for (Method method : AshLoans.class.getDeclaredMethods()) {
            if (Modifier.isPublic(method.getModifiers()) && !Modifier.isStatic(method.getModifiers())) {
                open.add(method.getReturnType() + " " + method.getName() + types(method.getParameterTypes()));
            }
        }
        for (Constructor<?> maker : AshLoans.class.getConstructors()) {
            open.add(maker.getName() + types(maker.getParameterTypes()));
        }
        holds(due.size() == Calls.NAMES.length + 1, "the document's face is read whole");
        holds(open.equals(due), "the class has the document's face");
    }

    private static String types(Class<?>[] types) {
        StringBuilder text = new StringBuilder("(");
        for (Class<?> type : types) {
            text.append(text.length() > 1 ? "," : "").append(type.getName());
        }
        return text.append(")").toString();
    }

    private static void fields(Class<?> type, boolean mustBePrivate) {
        int own = 0;
        for (Field field : type.getDeclaredFields()) {
            int flags = field.getModifiers();
            holds(!mustBePrivate || Modifier.isPrivate(flags), type.getName() + "." + field.getName() + " is private");
            holds(!Modifier.isStatic(flags) || Modifier.isFinal(flags), field.getName() + " is final, being static");
            own += Modifier.isStatic(flags) ? 0 : 1;
        }
        holds(own <= 20, type.getName() + " has at most 20 fields");
    }

    private static void inside() {
        Set<String> names = new HashSet<>(List.of(Calls.NAMES));
        Class<?>[] classes = AshLoans.class.getDeclaredClasses();
        holds(classes.length <= 11, "at most twelve classes");
        for (Class<?> type : classes) {
            int flags = type.getModifiers();
            holds(Modifier.isStatic(flags) && Modifier.isPrivate(flags), type.getName() + " is private and static");
            fields(type, false);
            for (Method method : type.getDeclaredMethods()) {
                holds(!names.contains(method.getName()), method.getName() + " is no name of the face");
                holds(!Modifier.isPublic(method.getModifiers()), method.getName() + " is not public");
                holds(method.getParameterCount() <= 7, method.getName() + " takes at most seven");
            }
        }
    }

    private static void methodLengths(String source) {
        String[] lines = source.split("\n");
        for (int i = 0; i < lines.length; i++) {
            Matcher start = Pattern.compile("^( {4}| {8})(?! )[^=;]*\\) \\{$").matcher(lines[i]);
            if (start.matches()) {
                int end = i;
                while (!lines[end].equals(start.group(1) + "}")) {
                    end++;
                }
                holds(end - i <= 50, "a method is short: " + lines[i].trim());
            }
        }
    }
}
