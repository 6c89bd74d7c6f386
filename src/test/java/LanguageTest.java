import java.io.IOException;
import java.lang.reflect.Constructor;
import java.lang.reflect.Executable;
import java.lang.reflect.Field;
import java.lang.reflect.Method;
import java.lang.reflect.Modifier;
import java.nio.file.Files;
import java.nio.file.Path;
import java.util.Arrays;
import java.util.Set;
import java.util.TreeSet;
import java.util.regex.Matcher;
import java.util.regex.Pattern;

/** The face of the class, and the rules of LANGUAGE.md that can be seen from outside or in the source's text. */
public final class LanguageTest {
    private static final Path SOURCE = Path.of("src/main/java/ChipBurner.java");
    private static final String[] FACE = {
        "int feed(int, int, int, int, int)", "int end(int)", "int file(int)", "int fault(int)", "int write(int, int, int)",
        "int tape(int)", "int image(int)", "boolean fill(int)", "int chip(int, int, boolean, int, int, int, int, int)",
        "boolean need(int, int, int)", "boolean bad(int, int, boolean)", "boolean contact(int, int, boolean)", "int erase(int)",
        "int chipOf(int, int)", "int recipe(int)", "int walk(int, int)", "int why(int, int, int, int, int)",
        "int burn(int, int, int, int, int, int)", "int wrong(int, int, int)", "int read(int, boolean, int, int)", "int about(int)",
    };

    public static void main(String[] args) throws IOException {
        face();
        Check.due("classes", ChipBurner.class.getDeclaredClasses().length + 1 <= 12, true);
        everyClass(ChipBurner.class);
        for (Class<?> inside : ChipBurner.class.getDeclaredClasses()) {
            Check.due(inside + " is static", Modifier.isStatic(inside.getModifiers()), true);
            Check.due(inside + " is not public", Modifier.isPublic(inside.getModifiers()), false);
            everyClass(inside);
        }
        sourceText(withoutCommentsAndTexts(Files.readString(SOURCE)));
        Check.finish();
    }

    private static void face() {
        Set<String> open = new TreeSet<>();
        for (Method m : ChipBurner.class.getDeclaredMethods()) {
            if (!Modifier.isPrivate(m.getModifiers()) && !m.isSynthetic()) {
                Check.due(m + " is public", Modifier.isPublic(m.getModifiers()) && !Modifier.isStatic(m.getModifiers()), true);
                String types = Arrays.toString(m.getParameterTypes());
                open.add(m.getReturnType() + " " + m.getName() + "(" + types.substring(1, types.length() - 1) + ")");
            }
        }
        Check.due("the methods", String.join("\n", open), String.join("\n", new TreeSet<>(Arrays.asList(FACE))));
        for (Field f : ChipBurner.class.getDeclaredFields()) {
            Check.due(f + " is private", Modifier.isPrivate(f.getModifiers()), !f.getName().equals("NONE"));
        }
        for (Constructor<?> c : ChipBurner.class.getDeclaredConstructors()) {
            Check.due(c + " is the one", Modifier.isPublic(c.getModifiers()) && c.getParameterCount() == 0, true);
        }
        Check.due("final", Modifier.isFinal(ChipBurner.class.getModifiers()), true);
    }

    private static void everyClass(Class<?> which) {
        int ownFields = 0;
        for (Field f : which.getDeclaredFields()) {
            if (Modifier.isStatic(f.getModifiers())) {
                Check.due(f + " is final", Modifier.isFinal(f.getModifiers()), true);
            } else {
                ownFields++;
            }
        }
        Check.due("fields of " + which, ownFields <= 20, true);
        for (Method m : which.getDeclaredMethods()) {
            fewParameters(m);
            if (which != ChipBurner.class || Modifier.isPrivate(m.getModifiers())) {
                boolean ofFace = Arrays.stream(FACE).anyMatch(f -> f.contains(" " + m.getName() + "("));
                Check.due(m + " bears a name of the face", ofFace, false);
            }
        }
        for (Constructor<?> c : which.getDeclaredConstructors()) {
            fewParameters(c);
        }
    }

    /** The face's own chip has eight. */
    private static void fewParameters(Executable e) {
        Check.due(e + " has few parameters", e.getParameterCount() <= 7 || e.getName().equals("chip"), true);
    }

    private static String withoutCommentsAndTexts(String source) {
        return source.replaceAll("(?s)/\\*.*?\\*/", "").replaceAll("//[^\n]*", "").replaceAll("\"[^\"\n]*\"", "\"\"")
            .replaceAll("'[^'\n]*'", "' '");
    }

    private static void sourceText(String source) {
        String[] words = {
            "throw", "throws", "try", "catch", "synchronized", "assert", "volatile", "native", "System\\.(?!arraycopy)", "Thread",
            "Random", "hashCode", "toString", "equals", "\\w+Exact", "package", "while\\s*\\(true\\)", "for\\s*\\(;;", "->", "::",
            "protected", "\\bvar\\b", "float", "double", "\\?\\s*extends",
        };
        for (String word : words) {
            String bounded = Character.isLetter(word.charAt(0)) ? "\\b" + word : word;
            Matcher matcher = Pattern.compile(Character.isLetter(word.charAt(word.length() - 1)) ? bounded + "\\b" : bounded).matcher(source);
            Check.due("'" + word + "' in the source", matcher.find(), false);
        }
        Matcher imports = Pattern.compile("import ([^;]*);").matcher(source);
        while (imports.find()) {
            Check.due("import " + imports.group(1), Set.of("java.util.Arrays", "java.util.ArrayList", "java.util.List")
                .contains(imports.group(1)), true);
        }
        listedLibrary(source);
        shortMethods(source);
    }

    /** Rule 4 lists what of the library may be used: of Integer, Long and Math functions alone, no constants. */
    private static void listedLibrary(String source) {
        Matcher uses = Pattern.compile("\\b([A-Z]\\w*)\\.(\\w+)(\\()?").matcher(source);
        while (uses.find()) {
            String use = uses.group(1) + "." + uses.group(2);
            boolean numbers = Set.of("Integer", "Long", "Math").contains(uses.group(1)) && uses.group(3) != null;
            boolean listed = Set.of("System.arraycopy", "Arrays.copyOf", "Arrays.copyOfRange", "Arrays.fill", "List.of").contains(use);
            boolean own = Arrays.stream(ChipBurner.class.getDeclaredClasses())
                .anyMatch(inside -> inside.getSimpleName().equals(uses.group(1)));
            Check.due(use + " is listed", numbers || listed || own, true);
        }
    }

    /** A method of the class stands 4 blanks in, one of a class inside 8, and its last brace as far in. */
    private static void shortMethods(String source) {
        Matcher methods = Pattern.compile("(?m)^( {4}| {8})(?=\\S)[^;={]*\\([^;={]*\\{\n(?:.*\n)*?\\1\\}$").matcher(source);
        int found = 0;
        while (methods.find()) {
            found++;
            String method = methods.group();
            Check.due(method.lines().findFirst().orElse("") + " is short", method.lines().count() <= 60, true);
        }
        Check.due("methods were found", found > 60, true);
    }
}
